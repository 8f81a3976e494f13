import java.util.Arrays;
import java.util.NoSuchElementException;

/**
 * A parish whose trees vote, by where their leaves fall, on who has the strips in dispute.
 * Everything that a call needs is made once, with the object: calls make nothing.
 */
public final class LeafVotes {
    public static final int NONE = -1;

    private static final int NO_SUCH = -2;
    private static final int NOT_A_ROLL = -1000;

    private static final int SIDE = 10;
    private static final int MOST_CELLS = 100;
    private static final int USUAL_SIDE = 6;
    private static final int MOST_OWNERS = 4;
    private static final int MOST_FIELDS = 8;
    private static final int MOST_STRIPS = 3;
    private static final int MOST_KINDS = 5;
    private static final int MOST_TREES = 14;
    private static final int MOST_WALLS = 10;
    private static final int MOST_WINDS = 8;
    private static final int MOST_YEARS = 199;
    private static final int MOST_FORCE = 4;
    private static final int WAYS = 5;
    private static final int EARSHOT = 2;

    private static final int TAPE_BYTES = 940;
    private static final int PARISH_BYTES = 900;
    private static final int ROLL_BYTES = 400;
    private static final int SENTENCE_BYTES = 200;
    private static final int ROLL_LINES = 40;
    private static final int MOST_ONES = 20;
    private static final int MOST_WITHIN = 8;
    private static final int MOST_OPS = 40;
    private static final int MOST_UNDO = 8;
    private static final int IMAGES = 2;

    private static final int CANT_COME = 1;
    private static final int BAD_NUMBER = 2;
    private static final int BAD_NAME = 3;
    private static final int TOO_MANY = 4;

    /** Names stand in one row, since they are told once among all sorts: where each sort begins. */
    private static final int OWNER_NAMES = 0;
    private static final int STRIP_NAMES = 4;
    private static final int KIND_NAMES = 7;
    private static final int MOST_NAMES = 12;

    /** The words that no name may be; the numbers below are their places here. */
    private static final String WORDS = "size owner field strip kind tree wall wind still north east south west ever blows plants fells walls rakes or and not alive of for by x y leaves number ";
    private static final int WORD_COUNT = 30;
    private static final int SIZE = 0;
    private static final int OWNER = 1;
    private static final int FIELD = 2;
    private static final int STRIP = 3;
    private static final int KIND = 4;
    private static final int TREE = 5;
    private static final int WALL = 6;
    private static final int WIND = 7;
    private static final int STILL = 8;
    private static final int WEST = 12;
    private static final int EVER = 13;
    private static final int BLOWS = 14;
    private static final int PLANTS = 15;
    private static final int FELLS = 16;
    private static final int WALLS = 17;
    private static final int RAKES = 18;
    private static final int OR = 19;
    private static final int AND = 20;
    private static final int NOT = 21;
    private static final int ALIVE = 22;
    private static final int OF = 23;
    private static final int FOR = 24;
    private static final int BY = 25;
    private static final int X = 26;
    private static final int Y = 27;
    private static final int LEAVES = 28;
    private static final int NUMBER = 29;

    private static final int[] EAST_STEP = {0, 0, 1, 0, -1};
    private static final int[] SOUTH_STEP = {0, -1, 0, 1, 0};

    private final int[] tape = new int[TAPE_BYTES];
    private int tapeLength;
    private int lastFault;
    private int firstWind = NONE;
    private int firstRaked = NONE;
    private int bestCell = NONE;

    private Parish parish = new Parish();
    private Parish spareParish = new Parish();
    private Land land = new Land();
    private Land spareLand = new Land();
    private Sentence sentence = new Sentence();
    private Sentence spareSentence = new Sentence();
    private final Image[] images = new Image[IMAGES];
    private final History history = new History();

    private final Tokens tokens = new Tokens();
    private final ParishReader reader = new ParishReader(tokens, spareParish, spareLand);
    private final Roll lines = new Roll();
    private final Fall fall = new Fall(parish, land);
    private final Acts acts = new Acts(fall);
    private final Planner planner = new Planner(fall, parish);

    public LeafVotes() {
        for (int k = 0; k < IMAGES; k++) {
            images[k] = new Image();
        }
    }

    // ---- the tape and the texts on it

    public int feed(int a, int b, int c, int d, int e) {
        if (tapeLength + 20 > TAPE_BYTES) {
            return NONE;
        }
        putBytes(a);
        putBytes(b);
        putBytes(c);
        putBytes(d);
        putBytes(e);
        return tapeLength;
    }

    private void putBytes(int number) {
        for (int shift = 24; shift >= 0; shift -= 8) {
            if (tapeLength < TAPE_BYTES) {
                tape[tapeLength] = (number >>> shift) & 255;
                tapeLength++;
            }
        }
    }

    public boolean end(int n) {
        if (n < 0 || n > tapeLength) {
            return false;
        }
        tapeLength = n;
        return true;
    }

    public int parish() {
        openTape(PARISH_BYTES);
        int told = reader.read(spareParish, spareLand);
        lastFault = tokens.fault;
        if (lastFault != 0) {
            return -1 - tokens.faultPlace;
        }
        Parish oldParish = parish;
        parish = spareParish;
        spareParish = oldParish;
        Land oldLand = land;
        land = spareLand;
        spareLand = oldLand;
        sentence.forget();
        history.forget();
        return told;
    }

    private void openTape(int mostBytes) {
        tokens.open(tape, tapeLength, mostBytes);
        tapeLength = 0;
    }

    public int fault() {
        return lastFault;
    }

    // ---- what is so

    public int tree(int t, int what) throws NoSuchElementException {
        if (!isTree(t)) {
            throw new NoSuchElementException();
        }
        switch (what) {
            case 0:
                return land.kind[t];
            case 1:
                return land.x[t];
            case 2:
                return land.y[t];
            case 3:
                return land.leavesOf(parish, t);
            case 4:
                return parish.kindLoud[land.kind[t]];
            case 5:
                return saysOf(t);
            case 6:
                return land.voted[t];
            default:
                throw new NoSuchElementException();
        }
    }

    private int saysOf(int t) {
        int bits = 0;
        for (int s = 0; s < parish.strips; s++) {
            if (land.hasSay(parish, t, s)) {
                bits |= 1 << s;
            }
        }
        return bits;
    }

    public int cell(int x, int y, int what) throws NoSuchElementException {
        if (!isCell(x, y)) {
            throw new NoSuchElementException();
        }
        int place = y * SIDE + x;
        switch (what) {
            case 0:
                return land.ownerAt(parish, place);
            case 1:
                return parish.cellStrip[place];
            case 2:
                return land.treeAt(x, y);
            case 3:
                return land.isWalled(x, y) ? 1 : 0;
            case 4:
                return land.isRaked(x, y) ? 1 : 0;
            default:
                throw new NoSuchElementException();
        }
    }

    public int owner(int o, int what) {
        if (!isOwner(o)) {
            return NONE;
        }
        switch (what) {
            case 0:
                return cellsOfOwner(o);
            case 1:
                return stripsOfOwner(o);
            case 2:
                return land.year == 0 ? NONE : land.sacks[o];
            case 3:
                return land.allSacks[o];
            default:
                return NONE;
        }
    }

    private int cellsOfOwner(int o) {
        int cells = 0;
        for (int place = 0; place < MOST_CELLS; place++) {
            if (land.ownerAt(parish, place) == o) {
                cells++;
            }
        }
        return cells;
    }

    private int stripsOfOwner(int o) {
        int bits = 0;
        for (int s = 0; s < parish.strips; s++) {
            if (land.holder[s] == o) {
                bits |= 1 << s;
            }
        }
        return bits;
    }

    public int strip(int s, int what) {
        if (!isStrip(s)) {
            return NONE;
        }
        switch (what) {
            case 0:
                return parish.stripWide[s] * parish.stripHigh[s];
            case 1:
                return land.holder[s];
            case 2:
                return votersOf(s);
            case 3:
                return land.changes[s];
            default:
                return NONE;
        }
    }

    private int votersOf(int s) {
        int bits = 0;
        for (int t = 0; t < land.trees; t++) {
            if (land.hasSay(parish, t, s)) {
                bits |= 1 << t;
            }
        }
        return bits;
    }

    public int now(int what) {
        switch (what) {
            case 0:
                return land.year;
            case 1:
                return land.alive;
            case 2:
                return land.walls;
            case 3:
                return land.rakedCells();
            case 4:
                return land.allLeaves(parish);
            case 5:
                return land.lost;
            default:
                return NONE;
        }
    }

    public int count(int what) {
        switch (what) {
            case 0:
                return parish.wide;
            case 1:
                return parish.high;
            case 2:
                return parish.owners;
            case 3:
                return parish.strips;
            case 4:
                return parish.kinds;
            case 5:
                return land.trees;
            case 6:
                return parish.winds;
            case 7:
                return tapeLength;
            default:
                return NONE;
        }
    }

    private boolean isTree(int t) {
        return t >= 0 && t < land.trees;
    }

    private boolean isCell(int x, int y) {
        return x >= 0 && x < parish.wide && y >= 0 && y < parish.high;
    }

    private boolean isOwner(int o) {
        return o >= 0 && o < parish.owners;
    }

    private boolean isStrip(int s) {
        return s >= 0 && s < parish.strips;
    }

    private boolean isKind(int kind) {
        return kind >= 0 && kind < parish.kinds;
    }

    private boolean isWind(int way, int force) {
        return way >= 0 && way < WAYS && force >= 1 && force <= MOST_FORCE;
    }

    // ---- acts

    public int blow(int way, int force) {
        if (!isWind(way, force)) {
            return NONE;
        }
        history.note(land);
        return keepIfDone(acts.tryBlow(parish, land, way, force));
    }

    public int plant(int kind, int x, int y) {
        if (!isKind(kind) || !isCell(x, y)) {
            return NONE;
        }
        history.note(land);
        return keepIfDone(acts.tryPlant(land, kind, x, y));
    }

    public int fell(int t) {
        if (!isTree(t)) {
            return NONE;
        }
        history.note(land);
        return keepIfDone(acts.tryFell(land, t));
    }

    public int wall(int x, int y) {
        if (!isCell(x, y)) {
            return NONE;
        }
        history.note(land);
        return keepIfDone(acts.tryWall(land, x, y));
    }

    public int rake(int x, int y) {
        if (!isCell(x, y)) {
            return NONE;
        }
        history.note(land);
        return keepIfDone(acts.tryRake(land, x, y));
    }

    private int keepIfDone(int why) {
        if (why == 0) {
            history.keep();
        }
        return why;
    }

    public int undo() {
        return history.takeBack(land);
    }

    // ---- what would be by a wind

    public int leaves(int x, int y, int way, int force) {
        if (!isCell(x, y) || !isWind(way, force)) {
            return NONE;
        }
        fall.work(parish, land, way, force);
        return fall.fallen[y * SIDE + x];
    }

    public int votes(int t, int s, int way, int force) {
        if (!isTree(t) || !isStrip(s) || !isWind(way, force)) {
            return NO_SUCH;
        }
        fall.work(parish, land, way, force);
        return fall.vote[t * MOST_STRIPS + s];
    }

    public int voices(int o, int s, int way, int force) {
        if (!isOwner(o) || !isStrip(s) || !isWind(way, force)) {
            return NONE;
        }
        fall.work(parish, land, way, force);
        return fall.voices[s * MOST_OWNERS + o];
    }

    public int goes(int s, int way, int force) {
        if (!isStrip(s) || !isWind(way, force)) {
            return NO_SUCH;
        }
        fall.work(parish, land, way, force);
        return fall.heirOf(s);
    }

    public int sack(int o, int way, int force) {
        if (!isOwner(o) || !isWind(way, force)) {
            return NONE;
        }
        fall.work(parish, land, way, force);
        return fall.sacks[o];
    }

    public int likely(int o, int s, int what) throws NoSuchElementException {
        if (!isOwner(o) || !isStrip(s) || what < 0 || what > 1 || parish.winds == 0) {
            throw new NoSuchElementException();
        }
        int chances = 0;
        for (int w = 0; w < parish.winds; w++) {
            fall.work(parish, land, parish.windWay[w], parish.windForce[w]);
            if (fall.heirOf(s) == o) {
                chances += parish.windChance[w];
            }
        }
        int all = parish.allChances();
        int common = commonDivisor(chances, all);
        int number = what == 0 ? chances : all;
        return common > 0 ? number / common : number;
    }

    private static int commonDivisor(int a, int b) {
        int high = a;
        int low = b;
        for (int n = 0; n < 100 && low != 0; n++) {
            int rest = high % low;
            high = low;
            low = rest;
        }
        return high;
    }

    public int decides(int s, int way, int force) {
        if (!isStrip(s) || !isWind(way, force)) {
            return NONE;
        }
        fall.work(parish, land, way, force);
        int heir = fall.heirOf(s);
        int bits = 0;
        for (int t = 0; t < land.trees; t++) {
            int vote = fall.vote[t * MOST_STRIPS + s];
            if (vote != NONE) {
                int loud = parish.kindLoud[land.kind[t]];
                fall.voices[s * MOST_OWNERS + vote] -= loud;
                if (fall.heirOf(s) != heir) {
                    bits |= 1 << t;
                }
                fall.voices[s * MOST_OWNERS + vote] += loud;
            }
        }
        return bits;
    }

    // ---- what must have been, by the sacks on the tape

    public int blew() {
        if (!takeSacks()) {
            return NONE;
        }
        int found = 0;
        for (int way = 0; way < WAYS; way++) {
            int mostForce = way == 0 ? 1 : MOST_FORCE;
            for (int force = 1; force <= mostForce; force++) {
                fall.work(parish, land, way, force);
                if (sacksAreSo()) {
                    if (found == 0) {
                        firstWind = 10 * way + force;
                    }
                    found++;
                }
            }
        }
        return found;
    }

    public int wind() {
        return firstWind;
    }

    public int raked(int way, int force) {
        if (!takeSacks() || !isWind(way, force)) {
            return NONE;
        }
        fall.work(parish, land, way, force);
        if (sacksAreSo()) {
            return 0;
        }
        int found = 0;
        for (int place = 0; place < MOST_CELLS; place++) {
            if (sacksAreSoWithout(place)) {
                if (found == 0) {
                    firstRaked = place;
                }
                found++;
            }
        }
        return found;
    }

    public int where() {
        return firstRaked;
    }

    /** The tape is empty then; its bytes stay readable until the next feed. */
    private boolean takeSacks() {
        boolean asTold = parish.owners > 0 && tapeLength == parish.owners;
        tapeLength = 0;
        return asTold;
    }

    private boolean sacksAreSo() {
        for (int o = 0; o < parish.owners; o++) {
            if (fall.sacks[o] != tape[o]) {
                return false;
            }
        }
        return true;
    }

    private boolean sacksAreSoWithout(int place) {
        int o = land.ownerAt(parish, place);
        if (o == NONE || land.isRaked(place % SIDE, place / SIDE)) {
            return false;
        }
        fall.sacks[o] -= fall.fallen[place];
        boolean so = sacksAreSo();
        fall.sacks[o] += fall.fallen[place];
        return so;
    }

    // ---- where to plant and where to wall

    public int bestTree(int o, int s, int kind, int years) {
        if (!isOwner(o) || !isStrip(s) || !isKind(kind) || years < 0 || years > 20) {
            return NONE;
        }
        int grown = Math.min(parish.kindLeaves[kind], 1 + years);
        planner.begin(parish, land, s);
        return keepCell(planner.planTree(o, kind, grown));
    }

    public int bestWall(int o, int s) {
        if (!isOwner(o) || !isStrip(s)) {
            return NONE;
        }
        planner.begin(parish, land, s);
        return keepCell(planner.planWall(o));
    }

    public int duel(int o, int p, int s, int kind) {
        if (!isOwner(o) || !isOwner(p) || o == p || !isStrip(s) || !isKind(kind)) {
            return NONE;
        }
        planner.begin(parish, land, s);
        return keepCell(planner.planDuel(o, p, kind));
    }

    private int keepCell(int chances) {
        if (chances != NONE) {
            bestCell = planner.bestCell;
        }
        return chances;
    }

    public int at() {
        return bestCell;
    }

    // ---- autumns by draws

    public int drawn(int n, int seed) {
        if (n < 1 || n > 60 || parish.winds == 0) {
            return NONE;
        }
        history.note(land);
        int autumns = acts.drawAutumns(parish, land, n, seed);
        if (autumns > 0) {
            history.keep();
        }
        return autumns;
    }

    public int odds(int o, int s, int n, int seed) {
        if (!isOwner(o) || !isStrip(s) || n < 1 || n > 30 || parish.winds == 0) {
            return NONE;
        }
        int wins = 0;
        for (int k = 0; k < n; k++) {
            spareLand.copyFrom(land);
            acts.drawAutumns(parish, spareLand, 5, seed + k);
            if (spareLand.holder[s] == o) {
                wins++;
            }
        }
        return wins;
    }

    // ---- rolls and sentences

    public int roll(int lives) {
        if (lives != 0 && lives != 1) {
            return NOT_A_ROLL;
        }
        openTape(ROLL_BYTES);
        lines.read(tokens, parish);
        lastFault = tokens.fault;
        if (lastFault != 0) {
            return -2 - tokens.faultPlace;
        }
        if (lives == 0) {
            spareLand.copyFrom(land);
            return lines.play(acts, parish, spareLand);
        }
        history.note(land);
        int wrong = lines.play(acts, parish, land);
        history.keep();
        return wrong;
    }

    public int rolled(int what) {
        if (!lines.judged) {
            return NONE;
        }
        switch (what) {
            case 0:
                return lines.why;
            case 1:
                return lines.right;
            case 2:
                return lines.year;
            case 3:
                return lines.holder;
            default:
                return NONE;
        }
    }

    public int sentence() {
        openTape(SENTENCE_BYTES);
        spareSentence.read(tokens, parish);
        lastFault = tokens.fault;
        if (lastFault != 0) {
            return -1 - tokens.faultPlace;
        }
        Sentence old = sentence;
        sentence = spareSentence;
        spareSentence = old;
        return sentence.ones;
    }

    public int said(int k) {
        if (!sentence.told || k < NONE) {
            return NONE;
        }
        int bits = sentence.treesOf(parish, land);
        if (k == NONE) {
            return Integer.bitCount(bits);
        }
        int seen = 0;
        for (int t = 0; t < land.trees; t++) {
            if ((bits >> t & 1) == 1) {
                if (seen == k) {
                    return t;
                }
                seen++;
            }
        }
        return NONE;
    }

    // ---- images

    public boolean image(int k) {
        if (k < 0 || k >= IMAGES) {
            return false;
        }
        images[k].keep(parish, land, sentence);
        return true;
    }

    public boolean restore(int k) {
        if (k < 0 || k >= IMAGES || !images[k].kept) {
            return false;
        }
        images[k].putBack(parish, land, sentence);
        history.forget();
        return true;
    }

    /** What a parish text tells and no act changes. Cells are numbered 10 times Y and X. */
    private static final class Parish {
        int wide = USUAL_SIDE;
        int high = USUAL_SIDE;
        int owners;
        int strips;
        int kinds;
        int winds;
        int evergreens;
        final long[] names = new long[MOST_NAMES];
        final int[] cellOwner = new int[MOST_CELLS];
        final int[] cellStrip = new int[MOST_CELLS];
        final int[] stripX = new int[MOST_STRIPS];
        final int[] stripY = new int[MOST_STRIPS];
        final int[] stripWide = new int[MOST_STRIPS];
        final int[] stripHigh = new int[MOST_STRIPS];
        final int[] kindLeaves = new int[MOST_KINDS];
        final int[] kindLoud = new int[MOST_KINDS];
        final int[] windWay = new int[MOST_WINDS];
        final int[] windForce = new int[MOST_WINDS];
        final int[] windChance = new int[MOST_WINDS];

        Parish() {
            Arrays.fill(cellOwner, NONE);
            Arrays.fill(cellStrip, NONE);
        }

        void clear() {
            wide = USUAL_SIDE;
            high = USUAL_SIDE;
            owners = 0;
            strips = 0;
            kinds = 0;
            winds = 0;
            evergreens = 0;
            Arrays.fill(names, 0L);
            Arrays.fill(cellOwner, NONE);
            Arrays.fill(cellStrip, NONE);
        }

        void copyFrom(Parish other) {
            wide = other.wide;
            high = other.high;
            owners = other.owners;
            strips = other.strips;
            kinds = other.kinds;
            winds = other.winds;
            evergreens = other.evergreens;
            System.arraycopy(other.names, 0, names, 0, MOST_NAMES);
            System.arraycopy(other.cellOwner, 0, cellOwner, 0, MOST_CELLS);
            System.arraycopy(other.cellStrip, 0, cellStrip, 0, MOST_CELLS);
            System.arraycopy(other.stripX, 0, stripX, 0, MOST_STRIPS);
            System.arraycopy(other.stripY, 0, stripY, 0, MOST_STRIPS);
            System.arraycopy(other.stripWide, 0, stripWide, 0, MOST_STRIPS);
            System.arraycopy(other.stripHigh, 0, stripHigh, 0, MOST_STRIPS);
            System.arraycopy(other.kindLeaves, 0, kindLeaves, 0, MOST_KINDS);
            System.arraycopy(other.kindLoud, 0, kindLoud, 0, MOST_KINDS);
            System.arraycopy(other.windWay, 0, windWay, 0, MOST_WINDS);
            System.arraycopy(other.windForce, 0, windForce, 0, MOST_WINDS);
            System.arraycopy(other.windChance, 0, windChance, 0, MOST_WINDS);
        }

        boolean isNear(int strip, int x, int y) {
            int left = stripX[strip] - EARSHOT;
            int top = stripY[strip] - EARSHOT;
            int right = stripX[strip] + stripWide[strip] - 1 + EARSHOT;
            int bottom = stripY[strip] + stripHigh[strip] - 1 + EARSHOT;
            return x >= left && x <= right && y >= top && y <= bottom;
        }

        boolean isEvergreen(int kind) {
            return (evergreens >> kind & 1) == 1;
        }

        boolean isTaken(int place) {
            return cellOwner[place] != NONE || cellStrip[place] != NONE;
        }

        int slotOf(long name) {
            for (int slot = 0; slot < MOST_NAMES; slot++) {
                if (names[slot] == name) {
                    return slot;
                }
            }
            return NONE;
        }

        boolean hasWind(int way, int force) {
            for (int w = 0; w < winds; w++) {
                if (windWay[w] == way && windForce[w] == force) {
                    return true;
                }
            }
            return false;
        }

        int allChances() {
            int sum = 0;
            for (int w = 0; w < winds; w++) {
                sum += windChance[w];
            }
            return sum;
        }
    }

    /** What acts change: trees, walls, raked cells, who has which strip, sacks. */
    private static final class Land {
        int year;
        int trees;
        int alive;
        int walls;
        int lost = NONE;
        final int[] kind = new int[MOST_TREES];
        final int[] x = new int[MOST_TREES];
        final int[] y = new int[MOST_TREES];
        /** The year in which a tree was planted; NONE: it was told, and full grown. */
        final int[] planted = new int[MOST_TREES];
        /** For whom it voted in the latest autumn, where it first had a say then. */
        final int[] voted = new int[MOST_TREES];
        /** A row of cells an element, a bit for each cell of it. */
        final int[] wallRows = new int[SIDE];
        final int[] rakedRows = new int[SIDE];
        final int[] holder = new int[MOST_STRIPS];
        final int[] changes = new int[MOST_STRIPS];
        final int[] sacks = new int[MOST_OWNERS];
        final int[] allSacks = new int[MOST_OWNERS];

        Land() {
            Arrays.fill(holder, NONE);
        }

        void clear() {
            year = 0;
            trees = 0;
            alive = 0;
            walls = 0;
            lost = NONE;
            Arrays.fill(wallRows, 0);
            Arrays.fill(rakedRows, 0);
            Arrays.fill(holder, NONE);
            Arrays.fill(changes, 0);
            Arrays.fill(sacks, 0);
            Arrays.fill(allSacks, 0);
        }

        void copyFrom(Land other) {
            year = other.year;
            trees = other.trees;
            alive = other.alive;
            walls = other.walls;
            lost = other.lost;
            System.arraycopy(other.kind, 0, kind, 0, MOST_TREES);
            System.arraycopy(other.x, 0, x, 0, MOST_TREES);
            System.arraycopy(other.y, 0, y, 0, MOST_TREES);
            System.arraycopy(other.planted, 0, planted, 0, MOST_TREES);
            System.arraycopy(other.voted, 0, voted, 0, MOST_TREES);
            System.arraycopy(other.wallRows, 0, wallRows, 0, SIDE);
            System.arraycopy(other.rakedRows, 0, rakedRows, 0, SIDE);
            System.arraycopy(other.holder, 0, holder, 0, MOST_STRIPS);
            System.arraycopy(other.changes, 0, changes, 0, MOST_STRIPS);
            System.arraycopy(other.sacks, 0, sacks, 0, MOST_OWNERS);
            System.arraycopy(other.allSacks, 0, allSacks, 0, MOST_OWNERS);
        }

        void addTree(int ofKind, int atX, int atY, int inYear) {
            if (trees < MOST_TREES) {
                kind[trees] = ofKind;
                x[trees] = atX;
                y[trees] = atY;
                planted[trees] = inYear;
                voted[trees] = NONE;
                alive |= 1 << trees;
                trees++;
            }
        }

        void addWall(int atX, int atY) {
            wallRows[atY] |= 1 << atX;
            walls++;
        }

        boolean isAlive(int t) {
            return (alive >> t & 1) == 1;
        }

        boolean isWalled(int atX, int atY) {
            return (wallRows[atY] >> atX & 1) == 1;
        }

        boolean isRaked(int atX, int atY) {
            return (rakedRows[atY] >> atX & 1) == 1;
        }

        boolean isFree(int atX, int atY) {
            return !isWalled(atX, atY) && treeAt(atX, atY) == NONE;
        }

        int treeAt(int atX, int atY) {
            for (int t = 0; t < trees; t++) {
                if (x[t] == atX && y[t] == atY && isAlive(t)) {
                    return t;
                }
            }
            return NONE;
        }

        int ownerAt(Parish parish, int place) {
            int owner = parish.cellOwner[place];
            int strip = parish.cellStrip[place];
            return strip == NONE ? owner : holder[strip];
        }

        boolean hasSay(Parish parish, int t, int strip) {
            return isAlive(t) && parish.isNear(strip, x[t], y[t]);
        }

        int leavesOf(Parish parish, int t) {
            if (!isAlive(t)) {
                return 0;
            }
            int full = parish.kindLeaves[kind[t]];
            return planted[t] == NONE ? full : Math.min(full, 1 + year - planted[t]);
        }

        int allLeaves(Parish parish) {
            int sum = 0;
            for (int t = 0; t < trees; t++) {
                sum += leavesOf(parish, t);
            }
            return sum;
        }

        int rakedCells() {
            int sum = 0;
            for (int row = 0; row < SIDE; row++) {
                sum += Integer.bitCount(rakedRows[row]);
            }
            return sum;
        }
    }

    /** The lands ahead of the latest acts, the oldest one given up for a ninth. */
    private static final class History {
        private final Land[] kept = new Land[MOST_UNDO];
        private Land noted = new Land();
        private int first;
        private int size;

        History() {
            for (int k = 0; k < MOST_UNDO; k++) {
                kept[k] = new Land();
            }
        }

        void forget() {
            size = 0;
        }

        void note(Land land) {
            noted.copyFrom(land);
        }

        /** What was noted last was followed by an act that was done. */
        void keep() {
            int slot = (first + size) % MOST_UNDO;
            if (size < MOST_UNDO) {
                size++;
            } else {
                first = (first + 1) % MOST_UNDO;
            }
            Land old = kept[slot];
            kept[slot] = noted;
            noted = old;
        }

        int takeBack(Land land) {
            if (size == 0) {
                return NONE;
            }
            size--;
            land.copyFrom(kept[(first + size) % MOST_UNDO]);
            return size;
        }
    }

    private static final class Image {
        boolean kept;
        private final Parish parish = new Parish();
        private final Land land = new Land();
        private final Sentence sentence = new Sentence();

        void keep(Parish fromParish, Land fromLand, Sentence fromSentence) {
            parish.copyFrom(fromParish);
            land.copyFrom(fromLand);
            sentence.copyFrom(fromSentence);
            kept = true;
        }

        void putBack(Parish toParish, Land toLand, Sentence toSentence) {
            toParish.copyFrom(parish);
            toLand.copyFrom(land);
            toSentence.copyFrom(sentence);
        }
    }

    /** Reads a text token by token and holds the first fault along it. */
    private static final class Tokens {
        static final int END = 0;
        static final int WORD = 1;
        static final int DIGITS = 2;
        static final int MARK = 3;

        private final long[] codes = new long[WORD_COUNT];
        private int[] bytes = new int[0];
        private int length;
        private int most;
        private int next;
        private int place;

        /** Of the token read last: its sort; its word's number (NONE: a name), its number, its sign. */
        int sort;
        int value;
        long name;
        int fault;
        int faultPlace;

        Tokens() {
            int word = 0;
            long code = 0;
            for (int i = 0; i < WORDS.length() && word < WORD_COUNT; i++) {
                char sign = WORDS.charAt(i);
                if (sign == ' ') {
                    codes[word] = code;
                    word++;
                    code = 0;
                } else {
                    code = code * 32 + (sign - 'a' + 1);
                }
            }
        }

        void open(int[] text, int textLength, int mostBytes) {
            bytes = text;
            length = Math.min(textLength, text.length);
            most = mostBytes;
            next = 0;
            place = 0;
            fault = 0;
            faultPlace = 0;
        }

        /** The fault of the token read last, if none was ahead of it. */
        void fail(int why) {
            if (fault == 0) {
                fault = why;
                faultPlace = place;
            }
        }

        void advance() {
            while (next < length && (bytes[next] == 32 || bytes[next] == 10)) {
                next++;
            }
            place = next;
            sort = END;
            value = NONE;
            if (length > most && next >= most) {
                place = most;
                fail(CANT_COME);
            } else if (next < length) {
                readMark();
                if (sort == END) {
                    readRun();
                }
                if (sort == WORD) {
                    value = wordOf(name);
                } else if (sort == END) {
                    fail(CANT_COME);
                }
            }
        }

        private void readMark() {
            int sign = bytes[next];
            if (sign == ';' || sign == '(' || sign == ')' || sign == '<' || sign == '=' || sign == '>') {
                sort = MARK;
                value = sign;
                next++;
            }
        }

        /** Letters and digits as far as they go: a word, a number or neither. */
        private void readRun() {
            int letters = 0;
            int digits = 0;
            int number = 0;
            long code = 0;
            while (next < length) {
                int sign = bytes[next];
                if (sign >= 'a' && sign <= 'z') {
                    letters++;
                    code = code * 32 + (sign - 'a' + 1);
                } else if (sign >= '0' && sign <= '9') {
                    digits++;
                    number = number * 10 + (sign - '0');
                } else {
                    break;
                }
                next++;
            }
            if (digits == 0 && letters >= 1 && letters <= 7) {
                sort = WORD;
                name = code;
            } else if (letters == 0 && digits >= 1 && digits <= 2) {
                sort = DIGITS;
                value = number;
            }
        }

        private int wordOf(long code) {
            for (int word = 0; word < WORD_COUNT; word++) {
                if (codes[word] == code) {
                    return word;
                }
            }
            return NONE;
        }

        boolean isName() {
            return sort == WORD && value == NONE;
        }

        boolean isMark(int sign) {
            return sort == MARK && value == sign;
        }

        /** The token read last must be a sign; the one behind it is read. */
        void passMark(int sign) {
            if (!isMark(sign)) {
                fail(CANT_COME);
            }
            if (fault == 0) {
                advance();
            }
        }

        boolean isWord(int word) {
            return sort == WORD && value == word;
        }

        int word() {
            return sort == WORD ? value : NONE;
        }

        /** The next token must be a number from low to high; NONE: there is a fault. */
        int number(int low, int high) {
            if (fault != 0) {
                return NONE;
            }
            advance();
            if (sort != DIGITS) {
                fail(CANT_COME);
            } else if (value < low || value > high) {
                fail(BAD_NUMBER);
            }
            return fault == 0 ? value : NONE;
        }

        /** The next token must be a way; NONE: there is a fault. */
        int way() {
            if (fault != 0) {
                return NONE;
            }
            advance();
            int word = word();
            if (word < STILL || word > WEST) {
                fail(CANT_COME);
            }
            return fault == 0 ? word - STILL : NONE;
        }

        /** The next token must be a name of the sort whose names begin at first: its number; NONE: a fault. */
        int oldName(Parish parish, int first, int mostOfSort) {
            if (fault != 0) {
                return NONE;
            }
            advance();
            int number = NONE;
            if (!isName()) {
                fail(CANT_COME);
            } else {
                number = parish.slotOf(name) - first;
                if (number < 0 || number >= mostOfSort) {
                    fail(BAD_NAME);
                }
            }
            return fault == 0 ? number : NONE;
        }
    }

    /** Reads a parish text into a parish and a land that it makes empty first. */
    private static final class ParishReader {
        private final Tokens tokens;
        private Parish parish;
        private Land land;
        private boolean sized;
        private int fields;

        ParishReader(Tokens text, Parish intoParish, Land intoLand) {
            tokens = text;
            parish = intoParish;
            land = intoLand;
        }

        /** How many lines there are; it is for the tokens to say whether there is a fault. */
        int read(Parish intoParish, Land intoLand) {
            parish = intoParish;
            land = intoLand;
            parish.clear();
            land.clear();
            sized = false;
            fields = 0;
            int told = 0;
            tokens.advance();
            while (told < PARISH_BYTES && tokens.fault == 0 && tokens.sort != Tokens.END) {
                switch (tokens.word()) {
                    case SIZE:
                        readSize();
                        break;
                    case OWNER:
                        readOwner();
                        break;
                    case FIELD:
                        readField();
                        break;
                    case STRIP:
                        readStrip();
                        break;
                    case KIND:
                        readKind();
                        break;
                    case TREE:
                        readTree();
                        break;
                    case WALL:
                        readWall();
                        break;
                    case WIND:
                        readWind();
                        break;
                    default:
                        tokens.fail(CANT_COME);
                        break;
                }
                tokens.passMark(';');
                told++;
            }
            return told;
        }

        private void readSize() {
            if (sized || fields > 0 || parish.strips > 0 || land.trees > 0 || land.walls > 0) {
                tokens.fail(BAD_NAME);
            }
            int wide = tokens.number(1, SIDE);
            int high = tokens.number(1, SIDE);
            if (tokens.fault == 0) {
                sized = true;
                parish.wide = wide;
                parish.high = high;
                tokens.advance();
            }
        }

        private void readOwner() {
            if (parish.owners >= MOST_OWNERS) {
                tokens.fail(TOO_MANY);
            }
            readNewName(OWNER_NAMES + parish.owners);
            if (tokens.fault == 0) {
                parish.owners++;
                tokens.advance();
            }
        }

        private void readNewName(int slot) {
            if (tokens.fault != 0) {
                return;
            }
            tokens.advance();
            if (!tokens.isName()) {
                tokens.fail(CANT_COME);
            } else if (parish.slotOf(tokens.name) != NONE) {
                tokens.fail(BAD_NAME);
            } else if (slot < MOST_NAMES) {
                parish.names[slot] = tokens.name;
            }
        }

        private void readField() {
            if (fields >= MOST_FIELDS) {
                tokens.fail(TOO_MANY);
            }
            int owner = tokens.oldName(parish, OWNER_NAMES, MOST_OWNERS);
            readArea(owner, NONE);
            if (tokens.fault == 0) {
                fields++;
                tokens.advance();
            }
        }

        private void readStrip() {
            if (parish.strips >= MOST_STRIPS) {
                tokens.fail(TOO_MANY);
            }
            readNewName(STRIP_NAMES + parish.strips);
            readArea(NONE, parish.strips);
            if (tokens.fault == 0) {
                parish.strips++;
                tokens.advance();
            }
        }

        private void readArea(int owner, int strip) {
            int x = tokens.number(0, parish.wide - 1);
            int y = tokens.number(0, parish.high - 1);
            int wide = tokens.number(1, parish.wide - x);
            int high = tokens.number(1, parish.high - y);
            if (tokens.fault == 0 && isAnyTaken(x, y, wide, high)) {
                tokens.fail(BAD_NAME);
            }
            if (tokens.fault != 0) {
                return;
            }
            for (int row = y; row < y + high; row++) {
                for (int column = x; column < x + wide; column++) {
                    parish.cellOwner[row * SIDE + column] = owner;
                    parish.cellStrip[row * SIDE + column] = strip;
                }
            }
            if (strip != NONE) {
                parish.stripX[strip] = x;
                parish.stripY[strip] = y;
                parish.stripWide[strip] = wide;
                parish.stripHigh[strip] = high;
            }
        }

        private boolean isAnyTaken(int x, int y, int wide, int high) {
            for (int row = y; row < y + high; row++) {
                for (int column = x; column < x + wide; column++) {
                    if (parish.isTaken(row * SIDE + column)) {
                        return true;
                    }
                }
            }
            return false;
        }

        private void readKind() {
            if (parish.kinds >= MOST_KINDS) {
                tokens.fail(TOO_MANY);
            }
            readNewName(KIND_NAMES + parish.kinds);
            int leaves = tokens.number(1, 12);
            int loud = tokens.number(1, 9);
            if (tokens.fault != 0) {
                return;
            }
            parish.kindLeaves[parish.kinds] = leaves;
            parish.kindLoud[parish.kinds] = loud;
            tokens.advance();
            if (tokens.isWord(EVER)) {
                parish.evergreens |= 1 << parish.kinds;
                tokens.advance();
            }
            parish.kinds++;
        }

        private void readTree() {
            if (land.trees >= MOST_TREES) {
                tokens.fail(TOO_MANY);
            }
            int kind = tokens.oldName(parish, KIND_NAMES, MOST_KINDS);
            int x = tokens.number(0, parish.wide - 1);
            int y = tokens.number(0, parish.high - 1);
            if (tokens.fault == 0 && !land.isFree(x, y)) {
                tokens.fail(BAD_NAME);
            }
            if (tokens.fault == 0) {
                land.addTree(kind, x, y, NONE);
                tokens.advance();
            }
        }

        private void readWall() {
            if (land.walls >= MOST_WALLS) {
                tokens.fail(TOO_MANY);
            }
            int x = tokens.number(0, parish.wide - 1);
            int y = tokens.number(0, parish.high - 1);
            if (tokens.fault == 0 && !land.isFree(x, y)) {
                tokens.fail(BAD_NAME);
            }
            if (tokens.fault == 0) {
                land.addWall(x, y);
                tokens.advance();
            }
        }

        private void readWind() {
            if (parish.winds >= MOST_WINDS) {
                tokens.fail(TOO_MANY);
            }
            int way = tokens.way();
            int force = tokens.number(1, MOST_FORCE);
            if (tokens.fault == 0 && parish.hasWind(way, force)) {
                tokens.fail(BAD_NAME);
            }
            int chance = tokens.number(1, 9);
            if (tokens.fault == 0) {
                parish.windWay[parish.winds] = way;
                parish.windForce[parish.winds] = force;
                parish.windChance[parish.winds] = chance;
                parish.winds++;
                tokens.advance();
            }
        }
    }

    /** A roll's lines, and what the latest one that was judged came to. */
    private static final class Roll {
        boolean judged;
        int why;
        int right;
        int year;
        int holder = NONE;
        private int size;
        /** What each line does, as its first word's number, and the numbers behind that. */
        private final int[] deed = new int[ROLL_LINES];
        private final int[] one = new int[ROLL_LINES];
        private final int[] two = new int[ROLL_LINES];
        private final int[] three = new int[ROLL_LINES];

        void read(Tokens tokens, Parish parish) {
            size = 0;
            tokens.advance();
            for (int n = 0; n <= ROLL_LINES && tokens.fault == 0 && tokens.sort != Tokens.END; n++) {
                readLine(tokens, parish);
                if (tokens.fault == 0) {
                    size++;
                    tokens.advance();
                }
                tokens.passMark(';');
            }
        }

        private void readLine(Tokens tokens, Parish parish) {
            int word = tokens.word();
            if (word < BLOWS || word > RAKES) {
                tokens.fail(CANT_COME);
            } else if (size >= ROLL_LINES) {
                tokens.fail(TOO_MANY);
            }
            if (tokens.fault != 0) {
                return;
            }
            deed[size] = word;
            if (word == BLOWS) {
                one[size] = tokens.way();
                two[size] = tokens.number(1, MOST_FORCE);
            } else if (word == FELLS) {
                one[size] = tokens.number(0, MOST_TREES - 1);
            } else {
                if (word == PLANTS) {
                    three[size] = tokens.oldName(parish, KIND_NAMES, MOST_KINDS);
                }
                one[size] = tokens.number(0, parish.wide - 1);
                two[size] = tokens.number(0, parish.high - 1);
            }
        }

        /** Lives the lines on a land as far as none is wrong: the wrong one; NONE: none is. */
        int play(Acts acts, Parish parish, Land land) {
            int n = 0;
            why = 0;
            while (n < size && why == 0) {
                switch (deed[n]) {
                    case BLOWS:
                        why = acts.tryBlow(parish, land, one[n], two[n]);
                        break;
                    case PLANTS:
                        why = reason(10, acts.tryPlant(land, three[n], one[n], two[n]));
                        break;
                    case FELLS:
                        why = one[n] >= land.trees ? 29 : reason(20, acts.tryFell(land, one[n]));
                        break;
                    case WALLS:
                        why = reason(30, acts.tryWall(land, one[n], two[n]));
                        break;
                    default:
                        why = reason(40, acts.tryRake(land, one[n], two[n]));
                        break;
                }
                n++;
            }
            judged = true;
            right = why == 0 ? n : n - 1;
            year = land.year;
            holder = land.holder[0];
            return why == 0 ? NONE : right;
        }

        private static int reason(int tens, int whyNot) {
            return whyNot == 0 ? 0 : tens + whyNot;
        }
    }

    /** A sentence, kept in the order in which a stack of sets of trees works it out. */
    private static final class Sentence {
        boolean told;
        int ones;
        private int size;
        /** What each step does, as its word's number; its sign; its number. */
        private final int[] step = new int[MOST_OPS];
        private final int[] sign = new int[MOST_OPS];
        private final int[] number = new int[MOST_OPS];
        private final int[] stack = new int[MOST_OPS];

        void forget() {
            told = false;
        }

        void copyFrom(Sentence other) {
            told = other.told;
            ones = other.ones;
            size = other.size;
            System.arraycopy(other.step, 0, step, 0, MOST_OPS);
            System.arraycopy(other.sign, 0, sign, 0, MOST_OPS);
            System.arraycopy(other.number, 0, number, 0, MOST_OPS);
        }

        void read(Tokens tokens, Parish parish) {
            told = true;
            ones = 0;
            size = 0;
            tokens.advance();
            readCondition(tokens, parish, 1);
            if (tokens.sort != Tokens.END) {
                tokens.fail(CANT_COME);
            }
        }

        /** One method for both 'or' and 'and': a step 'or' waits until its second part has been read. */
        private void readCondition(Tokens tokens, Parish parish, int depth) {
            readOne(tokens, parish, depth);
            boolean waits = false;
            for (int n = 0; n < MOST_ONES && tokens.fault == 0 && isJoin(tokens.word()); n++) {
                int join = tokens.word();
                if (join == OR && waits) {
                    addStep(OR, 0, 0);
                }
                waits = waits || join == OR;
                tokens.advance();
                readOne(tokens, parish, depth);
                if (join == AND) {
                    addStep(AND, 0, 0);
                }
            }
            if (waits) {
                addStep(OR, 0, 0);
            }
        }

        private static boolean isJoin(int word) {
            return word == AND || word == OR;
        }

        /** Behind it the token behind the one is the one read last. */
        private void readOne(Tokens tokens, Parish parish, int depth) {
            int word = tokens.word();
            boolean bracket = tokens.isMark('(');
            if (!bracket && word != EVER && word < NOT) {
                tokens.fail(CANT_COME);
            } else if (ones >= MOST_ONES || depth > MOST_WITHIN) {
                tokens.fail(TOO_MANY);
            }
            if (tokens.fault != 0) {
                return;
            }
            ones++;
            if (bracket) {
                tokens.advance();
                readCondition(tokens, parish, depth + 1);
                if (!tokens.isMark(')')) {
                    tokens.fail(CANT_COME);
                }
            } else if (word == NOT) {
                tokens.advance();
                readOne(tokens, parish, depth + 1);
                addStep(NOT, 0, 0);
                return;
            } else {
                readPlain(tokens, parish, word);
            }
            if (tokens.fault == 0) {
                tokens.advance();
            }
        }

        private void readPlain(Tokens tokens, Parish parish, int word) {
            int mark = 0;
            int value = 0;
            if (word == OF) {
                value = tokens.oldName(parish, KIND_NAMES, MOST_KINDS);
            } else if (word == FOR) {
                value = tokens.oldName(parish, OWNER_NAMES, MOST_OWNERS);
            } else if (word == BY) {
                value = tokens.oldName(parish, STRIP_NAMES, MOST_STRIPS);
            } else if (word >= X) {
                tokens.advance();
                mark = tokens.value;
                if (!tokens.isMark('<') && !tokens.isMark('=') && !tokens.isMark('>')) {
                    tokens.fail(CANT_COME);
                }
                value = tokens.number(0, 99);
            }
            addStep(word, mark, value);
        }

        private void addStep(int word, int mark, int value) {
            if (size < MOST_OPS) {
                step[size] = word;
                sign[size] = mark;
                number[size] = value;
                size++;
            }
        }

        /** The trees of which it may be said, as bits. */
        int treesOf(Parish parish, Land land) {
            int all = (1 << land.trees) - 1;
            int top = 0;
            for (int n = 0; n < size; n++) {
                if (step[n] == NOT && top >= 1) {
                    stack[top - 1] = all & ~stack[top - 1];
                } else if (step[n] == AND && top >= 2) {
                    top--;
                    stack[top - 1] &= stack[top];
                } else if (step[n] == OR && top >= 2) {
                    top--;
                    stack[top - 1] |= stack[top];
                } else if (top < MOST_OPS) {
                    stack[top] = treesOfStep(n, parish, land);
                    top++;
                }
            }
            return top > 0 ? stack[0] : 0;
        }

        private int treesOfStep(int n, Parish parish, Land land) {
            int bits = 0;
            for (int t = 0; t < land.trees; t++) {
                if (holds(n, t, parish, land)) {
                    bits |= 1 << t;
                }
            }
            return bits;
        }

        private boolean holds(int n, int t, Parish parish, Land land) {
            switch (step[n]) {
                case ALIVE:
                    return land.isAlive(t);
                case EVER:
                    return parish.isEvergreen(land.kind[t]);
                case OF:
                    return land.kind[t] == number[n];
                case FOR:
                    return land.voted[t] == number[n];
                case BY:
                    return land.hasSay(parish, t, number[n]);
                case X:
                    return compares(land.x[t], n);
                case Y:
                    return compares(land.y[t], n);
                case LEAVES:
                    return compares(land.leavesOf(parish, t), n);
                case NUMBER:
                    return compares(t, n);
                default:
                    return false;
            }
        }

        private boolean compares(int value, int n) {
            if (sign[n] == '<') {
                return value < number[n];
            }
            return sign[n] == '=' ? value == number[n] : value > number[n];
        }
    }

    /** What comes of a wind: where leaves lie, who votes for whom, what is in the sacks. */
    private static final class Fall {
        final int[] fallen = new int[MOST_CELLS];
        /** By trees, then strips; NONE: for nobody, or it has no say. */
        final int[] vote = new int[MOST_TREES * MOST_STRIPS];
        /** By strips, then owners. */
        final int[] voices = new int[MOST_STRIPS * MOST_OWNERS];
        final int[] sacks = new int[MOST_OWNERS];
        int lost;

        private Parish parish;
        private Land land;
        private int way;
        private int force;

        /** Of one tree, by how far leaves go: their cell (NONE: lost), how many, for whom they count. */
        private final int[] spot = new int[MOST_FORCE + 1];
        private final int[] load = new int[MOST_FORCE + 1];
        private final int[] counted = new int[MOST_FORCE + 1];
        private final int[] tally = new int[MOST_OWNERS];

        Fall(Parish inParish, Land onLand) {
            parish = inParish;
            land = onLand;
        }

        void work(Parish inParish, Land onLand, int byWay, int byForce) {
            parish = inParish;
            land = onLand;
            way = byWay;
            force = byForce;
            lost = 0;
            Arrays.fill(fallen, 0);
            Arrays.fill(vote, NONE);
            Arrays.fill(voices, 0);
            Arrays.fill(sacks, 0);
            for (int t = 0; t < land.trees; t++) {
                if (land.isAlive(t)) {
                    spread(land.leavesOf(parish, t), land.x[t], land.y[t]);
                    gather();
                    castVotes(t);
                }
            }
        }

        /** Where the leaves of a tree would go by the wind worked out last. */
        void spread(int leaves, int fromX, int fromY) {
            int x = fromX;
            int y = fromY;
            int share = leaves / (force + 1);
            int rest = leaves % (force + 1);
            boolean gone = false;
            for (int far = 0; far <= force; far++) {
                if (far > 0 && !gone) {
                    int nextX = x + EAST_STEP[way];
                    int nextY = y + SOUTH_STEP[way];
                    if (nextX < 0 || nextX >= parish.wide || nextY < 0 || nextY >= parish.high) {
                        gone = true;
                    } else if (!land.isWalled(nextX, nextY)) {
                        x = nextX;
                        y = nextY;
                    }
                }
                spot[far] = gone ? NONE : y * SIDE + x;
                load[far] = far < rest ? share + 1 : share;
                counted[far] = gone || land.isRaked(x, y) ? NONE : land.ownerAt(parish, spot[far]);
            }
        }

        private void gather() {
            for (int far = 0; far <= force; far++) {
                if (spot[far] == NONE) {
                    lost += load[far];
                } else {
                    fallen[spot[far]] += load[far];
                }
                if (counted[far] != NONE) {
                    sacks[counted[far]] += load[far];
                }
            }
        }

        private void castVotes(int t) {
            int kind = land.kind[t];
            if (parish.isEvergreen(kind)) {
                return;
            }
            for (int s = 0; s < parish.strips; s++) {
                if (parish.isNear(s, land.x[t], land.y[t])) {
                    int favourite = favourite(s);
                    vote[t * MOST_STRIPS + s] = favourite;
                    if (favourite != NONE) {
                        voices[s * MOST_OWNERS + favourite] += parish.kindLoud[kind];
                    }
                }
            }
        }

        /** For whom a tree that is no evergreen votes in a strip, by where its leaves were spread last. */
        int favourite(int strip) {
            Arrays.fill(tally, 0);
            for (int far = 0; far <= force; far++) {
                if (counted[far] != NONE && parish.cellStrip[spot[far]] != strip) {
                    tally[counted[far]] += load[far];
                }
            }
            return leader(tally, 0);
        }

        /** The owner with most in a row of owners; NONE: there is nothing, or two are alike. */
        static int leader(int[] row, int from) {
            int best = NONE;
            int most = 0;
            for (int o = 0; o < MOST_OWNERS; o++) {
                if (row[from + o] > most) {
                    most = row[from + o];
                    best = o;
                } else if (row[from + o] == most) {
                    best = NONE;
                }
            }
            return best;
        }

        int heirOf(int strip) {
            int best = leader(voices, strip * MOST_OWNERS);
            return best == NONE ? land.holder[strip] : best;
        }
    }

    /** Acts on a land: 0, or why they can't be done. */
    private static final class Acts {
        private final Fall fall;
        private int seed;

        Acts(Fall byFall) {
            fall = byFall;
        }

        int tryBlow(Parish parish, Land land, int way, int force) {
            if (land.year >= MOST_YEARS) {
                return 1;
            }
            fall.work(parish, land, way, force);
            noteVotes(parish, land);
            for (int s = 0; s < parish.strips; s++) {
                int heir = fall.heirOf(s);
                if (heir != land.holder[s]) {
                    land.holder[s] = heir;
                    land.changes[s]++;
                }
            }
            for (int o = 0; o < parish.owners; o++) {
                land.sacks[o] = fall.sacks[o];
                land.allSacks[o] += fall.sacks[o];
            }
            land.lost = fall.lost;
            land.year++;
            Arrays.fill(land.rakedRows, 0);
            return 0;
        }

        private void noteVotes(Parish parish, Land land) {
            for (int t = 0; t < land.trees; t++) {
                land.voted[t] = NONE;
                for (int s = parish.strips - 1; s >= 0; s--) {
                    if (land.hasSay(parish, t, s)) {
                        land.voted[t] = fall.vote[t * MOST_STRIPS + s];
                    }
                }
            }
        }

        int tryPlant(Land land, int kind, int x, int y) {
            if (!land.isFree(x, y)) {
                return 1;
            }
            if (land.trees >= MOST_TREES) {
                return 2;
            }
            land.addTree(kind, x, y, land.year);
            return 0;
        }

        int tryFell(Land land, int t) {
            if (!land.isAlive(t)) {
                return 1;
            }
            land.alive &= ~(1 << t);
            return 0;
        }

        int tryWall(Land land, int x, int y) {
            if (!land.isFree(x, y)) {
                return 1;
            }
            if (land.walls >= MOST_WALLS) {
                return 2;
            }
            land.addWall(x, y);
            return 0;
        }

        int tryRake(Land land, int x, int y) {
            if (land.isRaked(x, y)) {
                return 1;
            }
            land.rakedRows[y] |= 1 << x;
            return 0;
        }

        /** How many autumns there were: none is begun once the years are full. */
        int drawAutumns(Parish parish, Land land, int n, int firstSeed) {
            seed = firstSeed;
            int autumns = 0;
            int all = parish.allChances();
            while (autumns < n && land.year < MOST_YEARS) {
                if (draw(3) == 0) {
                    int place = draw(parish.wide * parish.high);
                    int y = parish.wide > 0 ? place / parish.wide : 0;
                    tryRake(land, place - y * parish.wide, y);
                }
                int w = windOf(parish, draw(all));
                tryBlow(parish, land, parish.windWay[w], parish.windForce[w]);
                autumns++;
            }
            return autumns;
        }

        private int draw(int n) {
            seed = seed * 1103515245 + 12345;
            return n > 0 ? (seed >>> 8) % n : 0;
        }

        private static int windOf(Parish parish, int drawn) {
            int ahead = 0;
            for (int w = 0; w < parish.winds; w++) {
                ahead += parish.windChance[w];
                if (drawn < ahead) {
                    return w;
                }
            }
            return 0;
        }
    }

    /** Looks for cells to plant or to wall, for one strip. What it tries is never done on the land itself. */
    private static final class Planner {
        int bestCell = NONE;
        private final Fall fall;
        private Parish parish;
        private final Land land = new Land();
        private int strip;
        private int freeCells;
        private final boolean[] free = new boolean[MOST_CELLS];
        private final int[] scores = new int[MOST_CELLS];
        /** Voices of the trees that are there, by winds, then owners. */
        private final int[] voices = new int[MOST_WINDS * MOST_OWNERS];
        /** A new tree's vote, by cells, then winds: 0 nobody, 1 and the owner. */
        private final int[] ballots = new int[MOST_CELLS * MOST_WINDS];
        /** Who has the strip behind the first one's planting, by winds, then the second one's ballot. */
        private final int[] heirs = new int[MOST_WINDS * (MOST_OWNERS + 1)];
        private final int[] row = new int[MOST_OWNERS];

        Planner(Fall byFall, Parish inParish) {
            fall = byFall;
            parish = inParish;
        }

        void begin(Parish inParish, Land onLand, int forStrip) {
            parish = inParish;
            land.copyFrom(onLand);
            strip = forStrip;
            freeCells = 0;
            for (int place = 0; place < MOST_CELLS; place++) {
                int x = place % SIDE;
                int y = place / SIDE;
                free[place] = x < parish.wide && y < parish.high && land.isFree(x, y);
                if (free[place]) {
                    freeCells++;
                }
            }
        }

        int planTree(int owner, int kind, int leaves) {
            if (parish.winds == 0 || freeCells == 0 || land.trees >= MOST_TREES) {
                return NONE;
            }
            canvass(kind, leaves);
            int loud = parish.kindLoud[kind];
            for (int place = 0; place < MOST_CELLS; place++) {
                scores[place] = 0;
                for (int w = 0; w < parish.winds && free[place]; w++) {
                    if (heirWith(w, loud, ballots[place * MOST_WINDS + w], 0) == owner) {
                        scores[place] += parish.windChance[w];
                    }
                }
            }
            return pickBest();
        }

        /** By each wind told: the voices that there are, and a new tree's ballot in each free cell. */
        private void canvass(int kind, int leaves) {
            boolean votes = !parish.isEvergreen(kind);
            for (int w = 0; w < parish.winds; w++) {
                fall.work(parish, land, parish.windWay[w], parish.windForce[w]);
                System.arraycopy(fall.voices, strip * MOST_OWNERS, voices, w * MOST_OWNERS, MOST_OWNERS);
                for (int place = 0; place < MOST_CELLS; place++) {
                    int x = place % SIDE;
                    int y = place / SIDE;
                    int ballot = 0;
                    if (votes && free[place] && parish.isNear(strip, x, y)) {
                        fall.spread(leaves, x, y);
                        ballot = 1 + fall.favourite(strip);
                    }
                    ballots[place * MOST_WINDS + w] = ballot;
                }
            }
        }

        private int heirWith(int w, int loud, int ballot, int otherBallot) {
            System.arraycopy(voices, w * MOST_OWNERS, row, 0, MOST_OWNERS);
            if (ballot > 0) {
                row[ballot - 1] += loud;
            }
            if (otherBallot > 0) {
                row[otherBallot - 1] += loud;
            }
            return heirByRow();
        }

        private int heirByRow() {
            int best = Fall.leader(row, 0);
            return best == NONE ? land.holder[strip] : best;
        }

        private int pickBest() {
            int most = NONE;
            for (int place = 0; place < MOST_CELLS; place++) {
                if (free[place] && scores[place] > most) {
                    most = scores[place];
                    bestCell = place;
                }
            }
            return most;
        }

        int planWall(int owner) {
            if (parish.winds == 0 || freeCells == 0 || land.walls >= MOST_WALLS) {
                return NONE;
            }
            Arrays.fill(scores, 0);
            for (int w = 0; w < parish.winds; w++) {
                fall.work(parish, land, parish.windWay[w], parish.windForce[w]);
                for (int place = 0; place < MOST_CELLS; place++) {
                    if (free[place] && heirWithWall(w, place) == owner) {
                        scores[place] += parish.windChance[w];
                    }
                }
            }
            return pickBest();
        }

        /** Only trees whose leaves would come to the wall vote anew. */
        private int heirWithWall(int w, int place) {
            int x = place % SIDE;
            int y = place / SIDE;
            System.arraycopy(fall.voices, strip * MOST_OWNERS, row, 0, MOST_OWNERS);
            land.wallRows[y] |= 1 << x;
            for (int t = 0; t < land.trees; t++) {
                if (isAhead(w, t, x, y) && land.hasSay(parish, t, strip)) {
                    revote(t);
                }
            }
            land.wallRows[y] &= ~(1 << x);
            return heirByRow();
        }

        private boolean isAhead(int w, int t, int x, int y) {
            int way = parish.windWay[w];
            int east = x - land.x[t];
            int south = y - land.y[t];
            int along = east * EAST_STEP[way] + south * SOUTH_STEP[way];
            int across = east * SOUTH_STEP[way] + south * EAST_STEP[way];
            return across == 0 && along >= 1 && along <= parish.windForce[w];
        }

        private void revote(int t) {
            int kind = land.kind[t];
            if (parish.isEvergreen(kind)) {
                return;
            }
            int before = fall.vote[t * MOST_STRIPS + strip];
            fall.spread(land.leavesOf(parish, t), land.x[t], land.y[t]);
            int behind = fall.favourite(strip);
            if (before != NONE) {
                row[before] -= parish.kindLoud[kind];
            }
            if (behind != NONE) {
                row[behind] += parish.kindLoud[kind];
            }
        }

        int planDuel(int first, int second, int kind) {
            if (parish.winds == 0 || freeCells < 2 || land.trees + 2 > MOST_TREES) {
                return NONE;
            }
            canvass(kind, parish.kindLeaves[kind]);
            for (int place = 0; place < MOST_CELLS; place++) {
                scores[place] = 0;
                if (free[place]) {
                    listHeirs(place, parish.kindLoud[kind]);
                    scores[place] = chancesBehind(first, answerOf(second, place));
                }
            }
            return pickBest();
        }

        private void listHeirs(int place, int loud) {
            for (int w = 0; w < parish.winds; w++) {
                int ballot = ballots[place * MOST_WINDS + w];
                for (int other = 0; other <= MOST_OWNERS; other++) {
                    heirs[w * (MOST_OWNERS + 1) + other] = heirWith(w, loud, ballot, other);
                }
            }
        }

        private int answerOf(int second, int place) {
            int most = NONE;
            int answer = 0;
            for (int other = 0; other < MOST_CELLS; other++) {
                if (free[other] && other != place) {
                    int chances = chancesBehind(second, other);
                    if (chances > most) {
                        most = chances;
                        answer = other;
                    }
                }
            }
            return answer;
        }

        private int chancesBehind(int owner, int other) {
            int chances = 0;
            for (int w = 0; w < parish.winds; w++) {
                if (heirs[w * (MOST_OWNERS + 1) + ballots[other * MOST_WINDS + w]] == owner) {
                    chances += parish.windChance[w];
                }
            }
            return chances;
        }
    }
}
