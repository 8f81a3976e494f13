import java.util.ArrayDeque;
import java.util.Deque;

/**
 * Every sentence of the document behind ==== 3 and in its promises that names a boundary, in the document's order: each
 * has its own test. What wrong arguments answer is in RefusedTest, what faults texts have is in TextBoundsTest.
 */
public final class PromiseBoundsTest {
    private static final int NONE = LeafVotes.NONE;
    private static final int STILL = 0;
    private static final int NORTH = 1;
    private static final int EAST = 2;
    private static final int SOUTH = 3;
    private static final int WEST = 4;

    /** One row: a's cells 0 to 2, the strip 3, b's cells 4 to 6. */
    private static final String ROW = "size 7 1;owner a;owner b;field a 0 0 3 1;field b 4 0 3 1;strip s 3 0 1 1;";
    /** Rows of three, so that x and y can't be taken for one another. */
    private static final String YARD = "size 3 5;owner a;owner b;field a 0 0 3 2;field b 0 3 3 2;strip s 0 2 3 1;"
        + "kind k 5 3;kind l 3 1;tree k 1 1;tree l 0 3;tree l 2 4;wind south 4 3;wind north 3 2;wind east 1 4;wind still 3 1;";

    public static void main(String[] args) {
        likelyWithoutWinds();
        decidesOrNobody();
        blewOf17();
        rakedBesides();
        plantAtMost();
        plantOnlyThisOne();
        firstRowByRow();
        wallAtYearsNone();
        duelOfLikeOnes();
        drawsThatWrap();
        rakedIfItCan();
        newParish();
        newObject();
        bytesHighestFirst();
        firstBytesAlone();
        faultAheadOfAny();
        votedForNone();
        noSackYet();
        stripsAsBits();
        changedHands();
        lostYet();
        eightAreKept();
        whatIsUndone();
        leastTerms();
        byteForEachOwner();
        latestBlew();
        latestRaked();
        nowhereToPlant();
        nowhereToWall();
        notTwo();
        latestAt();
        drawnAsManyAsMay();
        oddsOfSeeds();
        rollWrong();
        rollThen();
        saidOfThose();
        keptInTwoPlaces();
        restoredAsKept();
        countsOfAll();
        Due.close();
    }

    private static void due(String what, long got, long want) {
        Due.due(what, got, want);
    }

    private static void sacks(LeafVotes x, int... sacks) {
        byte[] bytes = new byte[sacks.length];
        for (int i = 0; i < sacks.length; i++) {
            bytes[i] = (byte) sacks[i];
        }
        Due.tape(x, bytes);
    }

    // "LIKELY: by the winds told and their CHANCES (without any: none)"
    private static void likelyWithoutWinds() {
        LeafVotes x = Due.of(ROW);
        for (int what = 0; what < 2; what++) {
            int part = what;
            Due.noSuch("likely " + what + " without winds", () -> x.likely(0, 0, part));
        }
        due("one wind", Due.of(ROW + "wind east 1 1;").likely(0, 0, 1), 1);
    }

    // "DECIDES: a TREE without which a STRIP would go to another one (or nobody)"
    private static void decidesOrNobody() {
        LeafVotes x = Due.of(ROW + "kind k 1 3;kind l 1 2;tree k 2 0;tree l 4 0;tree l 5 0;");
        due("3 for a, 4 for b: to a without either of b's", x.decides(0, STILL, 1), 6);
        x.fell(2);
        due("3 for a, 2 for b: to b without a's", x.decides(0, STILL, 1), 1);
        x.fell(1);
        due("3 for a: to nobody", x.decides(0, STILL, 1), 1);
        x.blow(STILL, 1);
        due("3 for a: it stays a's", x.decides(0, STILL, 1), 0);
        x.fell(0);
        due("no votes", x.decides(0, STILL, 1), 0);
        LeafVotes y = Due.of(ROW + "kind k 1 3;kind e 1 9 ever;tree k 2 0;tree k 4 0;tree e 5 0;tree k 0 0;");
        due("3 and 3: from nobody to either, never by an evergreen or one without a say", y.decides(0, STILL, 1), 3);
        LeafVotes z = Due.of(ROW + "kind k 1 1;tree k 2 0;tree k 1 0;");
        due("2 for a: neither alone", z.decides(0, STILL, 1), 0);
    }

    // "WAYS and FORCES (still, 1; each other WAY, 1 to 4: 17)"
    private static void blewOf17() {
        LeafVotes x = Due.of("owner a;");
        sacks(x, 0);
        due("all of them", x.blew(), 17);
        due("the first", x.wind(), 1);
        LeafVotes y = Due.of("size 9 9;owner a;field a 4 4 1 1;kind k 2 1;tree k 4 4;");
        sacks(y, 2);
        due("still alone, once", y.blew(), 1);
        due("is still 1", y.wind(), 1);
        sacks(y, 1);
        due("all others", y.blew(), 16);
        due("begin with north 1", y.wind(), 11);
        LeafVotes z = Due.of("size 9 9;owner a;field a 0 4 1 1;kind k 5 1;tree k 4 4;");
        sacks(z, 1);
        due("by the last one alone a leaf goes four cells west", z.blew(), 1);
        due("west 4", z.wind(), 44);
    }

    private static void due(String what, boolean got, int want) {
        Due.due(what, got, want == 1);
    }

    // "cells by whose raking, besides, SACKS would be so"
    private static void rakedBesides() {
        LeafVotes x = Due.of("size 3 2;owner a;field a 0 0 3 2;kind k 3 1;kind l 5 1;tree k 0 0;tree k 2 1;tree l 1 0;");
        sacks(x, 8);
        due("either of two", x.raked(STILL, 1), 2);
        due("the first", x.where(), 0);
        x.rake(0, 0);
        sacks(x, 8);
        due("so without", x.raked(STILL, 1), 0);
        sacks(x, 5);
        due("the other, besides", x.raked(STILL, 1), 1);
        due("it is", x.where(), 12);
        sacks(x, 11);
        due("what is raked can't be raked back", x.raked(STILL, 1), 0);
        sacks(x, 0);
        due("one alone, not two", x.raked(STILL, 1), 0);
        due("nothing was raked by it", x.now(3), 1);
    }

    // "(only this one TREE has grown: LEAVES 1 and YEARS, at most"
    private static void plantAtMost() {
        String text = "size 4 1;owner a;owner b;field a 1 0 1 1;field b 2 0 2 1;strip s 0 0 1 1;wall 0 0;wind east 3 5;kind k 2 1;";
        LeafVotes x = Due.of(text);
        due("1 leaf: a's", x.bestTree(0, 0, 0, 0), 5);
        due("there", x.at(), 1);
        for (int years = 1; years <= 20; years++) {
            due("2 leaves behind " + years, x.bestTree(0, 0, 0, years), 0);
            due("b's behind " + years, x.bestTree(1, 0, 0, years), 5);
            due("there behind " + years, x.at(), 2);
        }
        // With three leaves b has more of them, from the first free cell; with five a has.
        LeafVotes y = Due.of("size 4 1;owner a;owner b;field a 1 0 1 1;field b 2 0 2 1;strip s 0 0 1 1;wall 0 0;wall 2 0;wind east 1 5;kind k 12 1;");
        for (int years = 0; years <= 20; years++) {
            due("all of them are a's ahead of a wall, behind " + years, y.bestTree(0, 0, 0, years), 5);
        }
        LeafVotes z = Due.of("size 6 1;owner a;owner b;field a 1 0 1 1;field b 2 0 1 1;strip s 0 0 1 1;wall 0 0;kind k 12 1;wind east 1 1;");
        for (int years = 0; years <= 20; years++) {
            int leaves = Math.min(12, 1 + years);
            due("a by an odd one, of " + leaves, z.bestTree(0, 0, 0, years), leaves % 2);
        }
    }

    // "all others as now"
    private static void plantOnlyThisOne() {
        LeafVotes x = Due.of(ROW + "kind k 4 1;kind l 1 9;wind east 3 7;");
        x.plant(0, 2, 0);
        due("the planted one has a leaf now, with a", x.goes(0, EAST, 3), 0);
        due("behind three years it would vote for b, but it is as now", x.bestTree(0, 0, 0, 3), 7);
        due("and the new one keeps out of it", x.at(), 0);
        x.rake(2, 0);
        due("raked as now", x.bestTree(0, 0, 1, 3), 7);
        due("in another cell of a's", x.at(), 1);
        due("the year is as it was", x.now(0), 0);
        due("the trees are", x.count(5), 1);
        due("nothing to undo but the acts", x.undo(), 1);
    }

    // "Of like ones the first (row by row)"
    private static void firstRowByRow() {
        LeafVotes x = Due.of("size 4 3;owner a;strip s 0 0 1 1;kind k 1 1;kind l 2 1;wind still 1 3;wall 0 0;");
        due("a tree nowhere any good", x.bestTree(0, 0, 0, 0), 0);
        due("the first of the first row", x.at(), 1);
        due("a wall nowhere any good", x.bestWall(0, 0), 0);
        due("the first of the first row, too", x.at(), 1);
        x.wall(1, 0);
        x.wall(2, 0);
        x.wall(3, 0);
        x.bestWall(0, 0);
        due("the first of the second", x.at(), 10);
        // Cells 2 of the first row and 0 of the second are alike; so are their columns the other way round.
        LeafVotes y = Due.of("size 4 4;owner a;field a 2 0 1 1;field a 0 2 1 1;strip s 0 0 1 1;kind k 1 1;wind still 1 3;");
        due("two good ones", y.bestTree(0, 0, 0, 0), 3);
        due("the one in the first row", y.at(), 2);
        LeafVotes z = Due.of("size 4 4;owner a;field a 3 0 1 1;field a 0 1 1 1;kind k 1 1;tree k 3 0;tree k 0 1;");
        sacks(z, 1);
        due("two cells", z.raked(STILL, 1), 2);
        due("the one in the first row, too: where", z.where(), 3);
        LeafVotes w = Due.of("size 10 10;owner a;field a 9 9 1 1;strip s 8 8 1 1;kind k 1 1;wind still 1 3;");
        due("the last cell", w.bestTree(0, 0, 0, 0), 3);
        due("10 times Y and X", w.at(), 99);
    }

    // "WALL: the cell for a wall, likewise (YEARS 0)"
    private static void wallAtYearsNone() {
        LeafVotes x = Due.of("size 3 5;owner a;owner b;field a 0 0 3 2;field b 0 3 3 2;strip s 0 2 3 1;kind k 4 1;wind south 3 9;");
        x.plant(0, 1, 1);
        due("one leaf now: a's anyhow", x.bestWall(0, 0), 9);
        due("the first", x.at(), 0);
        for (int n = 0; n < 3; n++) {
            x.blow(STILL, 1);
        }
        due("four leaves now: b's", x.goes(0, SOUTH, 3), 1);
        due("a needs the wall", x.bestWall(0, 0), 9);
        due("there", x.at(), 21);
        due("b may have it anywhere else", x.bestWall(1, 0), 9);
        due("the first", x.at(), 0);
        due("none is there", x.now(2), 0);
    }

    // "so that the STRIP goes to him by most CHANCES (of like ones the first)"
    private static void duelOfLikeOnes() {
        LeafVotes x = Due.of("size 3 1;owner a;owner b;field a 0 0 1 1;field b 2 0 1 1;strip s 1 0 1 1;kind k 2 1;wind still 1 6;");
        // a in 0; b in 1 or 2 can't have it: he takes 1, the first, and a has it.
        due("a ahead of b", x.duel(0, 1, 0, 0), 6);
        due("there", x.at(), 0);
        // b in 2: a may take 0 or 1, neither makes it his, he takes 0, the first, and it is nobody's; b in 0: a has it; b in 1: a takes 0.
        due("b ahead of a", x.duel(1, 0, 0, 0), 0);
        due("all alike", x.at(), 0);
        LeafVotes y = Due.of("size 5 1;owner a;owner b;field a 0 0 1 1;field b 3 0 2 1;strip s 1 0 2 1;kind k 12 1;wind still 1 6;tree k 3 0;");
        due("b has two then", y.duel(1, 0, 0, 0), 6);
        due("where a can't make it alike", y.at(), 4);
        LeafVotes z = Due.of("size 4 1;owner a;owner b;field a 1 0 1 1;field b 2 0 2 1;strip s 0 0 1 1;kind k 3 1;wind east 3 6;");
        // Full grown a tree in 1 has one leaf with a and two with b.
        due("a has it nowhere", z.duel(0, 1, 0, 0), 0);
        due("b has it anywhere but in 0 or 3", z.duel(1, 0, 0, 0), 6);
        due("the first", z.at(), 0);
    }

    /** A draw by a number of 32 bits, as a long that never wraps. */
    private static final class Draws {
        private long x;

        Draws(int seed) {
            x = seed & 0xffffffffL;
        }

        int of(int n) {
            x = (x * 1103515245L + 12345L) & 0xffffffffL;
            return (int) ((x >> 8) % n);
        }
    }

    /** Autumns drawn by acts alone, in a parish of three columns and the winds of the yard. */
    private static void drawByActs(LeafVotes x, int n, int seed) {
        Draws draws = new Draws(seed);
        for (int i = 0; i < n; i++) {
            if (draws.of(3) == 0) {
                int cell = draws.of(15);
                x.rake(cell % 3, cell / 3);
            }
            int chance = draws.of(10);
            if (chance < 3) {
                x.blow(SOUTH, 4);
            } else if (chance < 5) {
                x.blow(NORTH, 3);
            } else if (chance < 9) {
                x.blow(EAST, 1);
            } else {
                x.blow(STILL, 3);
            }
        }
    }

    // "x becomes x * 1103515245 + 12345 (an int, wrapping), the draw is (x >>> 8) % n"
    private static void drawsThatWrap() {
        int[] seeds = {0, 1, -1, 2, 255, 256, -256, 65535, 12345, Integer.MAX_VALUE, Integer.MIN_VALUE, Integer.MIN_VALUE + 1, 1 << 30};
        for (int seed : seeds) {
            for (int n : new int[] {1, 2, 7, 60}) {
                LeafVotes x = Due.of(YARD);
                LeafVotes twin = Due.of(YARD);
                due("drawn " + n + " by " + seed, x.drawn(n, seed), n);
                drawByActs(twin, n, seed);
                Seen.alike("drawn " + n + " by " + seed, x, twin);
                due("as one act", x.undo(), 0);
            }
        }
    }

    // "a draw of all cells (row by row): it is raked, if it can"
    private static void rakedIfItCan() {
        // The draw of a cell that is raked is a draw all the same: the wind behind it is the next one.
        for (int seed = 0; seed < 40; seed++) {
            LeafVotes x = Due.of(YARD);
            LeafVotes twin = Due.of(YARD);
            for (int c = 0; c < 15; c++) {
                x.rake(c % 3, c / 3);
                twin.rake(c % 3, c / 3);
            }
            x.drawn(3, seed);
            drawByActs(twin, 3, seed);
            Seen.alike("all was raked, drawn by " + seed, x, twin);
            due("the first autumn had nothing in sacks: " + seed, x.owner(0, 3) + x.owner(1, 3) < 33, 1);
        }
    }

    // "A new PARISH: YEAR 0, no SENTENCE"
    private static void newParish() {
        LeafVotes x = Due.of(YARD);
        x.blow(SOUTH, 2);
        Due.sentence(x, "alive");
        x.rake(0, 0);
        x.wall(0, 0);
        x.fell(0);
        x.plant(0, 2, 2);
        Due.parish(x, YARD);
        due("year 0", x.now(0), 0);
        due("no sentence", x.said(NONE), NONE);
        due("none of it for any tree", x.said(0), NONE);
        due("nothing to undo", x.undo(), NONE);
        for (int n = 0; n < 4; n++) {
            Due.parish(x, YARD);
            Seen.alike("all anew", x, Due.of(YARD));
            x.blow(n % 2 == 0 ? NORTH : SOUTH, 1);
            due("the strip is had", x.strip(0, 1) != NONE, 1);
            x.blow(STILL, 1);
            x.wall(2, 2);
            x.rake(1, 2);
        }
        Due.parish(x, "");
        Seen.alike("all empty", x, new LeafVotes());
        // No evergreen of the old parish is one in the new one.
        for (int n = 0; n < 3; n++) {
            Due.parish(x, ROW + "kind k 1 1 ever;tree k 2 0;");
            due("an evergreen", x.votes(0, 0, STILL, 1), NONE);
        }
        for (int n = 0; n < 3; n++) {
            Due.parish(x, ROW + "kind k 1 1;tree k 2 0;");
            due("none", x.votes(0, 0, STILL, 1), 0);
        }
    }

    // 1: "A PARISH of 6 6, empty; an empty tape"
    private static void newObject() {
        LeafVotes x = new LeafVotes();
        due("6 6", x.count(0) * 10 + x.count(1), 66);
        due("no bytes", x.count(7), 0);
        Due.due("not one", x.end(1), false);
        Due.due("none", x.end(0), true);
        due("cell 5 5", x.cell(5, 5, 0), NONE);
        Due.noSuch("cell 6 5", () -> x.cell(6, 5, 0));
        Due.noSuch("tree 0", () -> x.tree(0, 0));
        due("owner 0", x.owner(0, 0), NONE);
        due("strip 0", x.strip(0, 0), NONE);
        due("it can blow", x.blow(WEST, 4), 0);
        due("none is lost", x.now(5), 0);
        due("an empty roll", x.roll(0), NONE);
        due("nobody has strip 0", x.rolled(3), NONE);
        Seen.alike("two new ones", new LeafVotes(), new LeafVotes());
    }

    // 2: "Twenty bytes come behind the tape, of each number the highest first: how many it has"
    private static void bytesHighestFirst() {
        LeafVotes x = new LeafVotes();
        due("twenty", x.feed(0x6f776e65, 0x72206f3b, 0x6669656c, 0x64206f20, 0x30203020), 20);
        due("forty", x.feed(0x31203120, 0x3b20200a, 0x0a206f77, 0x6e657220, 0x703b2020), 40);
        due("they are a text", x.parish(), 3);
        due("of one field", x.owner(0, 0), 1);
        // Bytes above 127, in each place of a number: 14 trees of 12 leaves are 168.
        StringBuilder text = new StringBuilder("size 4 4;owner a;owner b;owner c;owner d;field a 0 0 4 4;kind k 12 1;");
        for (int t = 0; t < 14; t++) {
            text.append("tree k " + t % 4 + " " + t / 4 + ";");
        }
        LeafVotes y = Due.of(text.toString());
        y.feed(0xa8000000, -1, -1, -1, -1);
        y.end(4);
        due("168, none, none, none", y.blew(), 1);
        due("by still", y.wind(), 1);
        for (int place = 0; place < 4; place++) {
            LeafVotes z = Due.of(text.toString().replace("field a", "field " + (char) ('a' + place)));
            z.feed(0xa8 << (24 - 8 * place), -1, -1, -1, -1);
            z.end(4);
            due("168 in place " + place, z.blew(), 1);
        }
    }

    // 3: "The tape has its first n bytes alone: true"
    private static void firstBytesAlone() {
        String text = "owner a;owner b;owner c;";
        for (int n = 0; n <= 3; n++) {
            LeafVotes x = new LeafVotes();
            Due.tape(x, text);
            Due.due("cut to " + n, x.end(8 * n), true);
            Due.due("as many again", x.end(8 * n), true);
            Due.due("one more", x.end(8 * n + 1), false);
            due("bytes", x.count(7), 8 * n);
            due("owners", x.parish(), n);
        }
        LeafVotes y = new LeafVotes();
        Due.tape(y, text);
        y.end(7);
        y.feed(0x3b6b696e, 0x64206b20, 0x31203120, 0x65766572, 0x3b202020);
        due("what comes behind comes there", y.parish(), 2);
    }

    // 5: "0 without one and ahead of any"
    private static void faultAheadOfAny() {
        LeafVotes x = new LeafVotes();
        due("ahead of any", x.fault(), 0);
        x.roll(7);
        due("a roll of -1000", x.fault(), 0);
        Due.parish(x, "size 0 0;");
        due("2", x.fault(), 2);
        x.roll(7);
        x.roll(-1);
        due("left", x.fault(), 2);
        x.roll(0);
        due("0 by an empty roll", x.fault(), 0);
    }

    // 6: "NONE: nobody, none, it was not there"
    private static void votedForNone() {
        LeafVotes x = Due.of(ROW + "kind k 2 1;tree k 2 0;tree k 3 0;tree k 0 0;tree k 6 0;tree k 5 0;");
        for (int t = 0; t < 5; t++) {
            due("ahead of any autumn " + t, x.tree(t, 6), NONE);
        }
        x.fell(4);
        x.blow(STILL, 1);
        int[] want = {0, NONE, NONE, NONE, NONE};
        for (int t = 0; t < 5; t++) {
            due("voted " + t, x.tree(t, 6), want[t]);
        }
        x.plant(0, 4, 0);
        due("it was not there", x.tree(5, 6), NONE);
        x.fell(0);
        due("felled since: it voted all the same", x.tree(0, 6), 0);
        x.blow(STILL, 1);
        due("felled: not in this one", x.tree(0, 6), NONE);
        due("it was there", x.tree(5, 6), 1);
    }

    // 8: "2 his SACK of the latest autumn (NONE: none was), 3 all his SACKS so far"
    private static void noSackYet() {
        LeafVotes x = Due.of(ROW + "kind k 12 1;tree k 0 0;");
        due("none was", x.owner(0, 2), NONE);
        due("all none", x.owner(0, 3), 0);
        x.rake(0, 0);
        x.blow(STILL, 1);
        due("an empty one was", x.owner(0, 2), 0);
        due("b's, too", x.owner(1, 2), 0);
        for (int n = 1; n <= 198; n++) {
            x.blow(STILL, 1);
        }
        due("the latest", x.owner(0, 2), 12);
        due("all of 198", x.owner(0, 3), 198 * 12);
        Due.parish(x, ROW);
        due("none was in a new parish", x.owner(0, 2), NONE);
    }

    // 9: "1 who has it (NONE) .. 3 how often it changed hands so far"
    private static void changedHands() {
        LeafVotes x = Due.of("size 5 5;owner a;owner b;field a 0 0 5 2;field b 0 3 5 2;strip s 0 2 5 1;kind k 3 1;tree k 2 2;");
        due("nobody", x.strip(0, 1), NONE);
        int changes = 0;
        for (int n = 0; n < 199; n++) {
            x.blow(n % 2 == 0 ? NORTH : SOUTH, 1);
            changes++;
            if (n % 50 == 0 || n == 198) {
                due("who has it behind " + n, x.strip(0, 1), n % 2);
                due("changes behind " + n, x.strip(0, 3), changes);
            }
        }
        x.undo();
        due("one less", x.strip(0, 3), 198);
        due("strips that b has, as bits", x.owner(1, 1), 1);
        due("strips that a has", x.owner(0, 1), 0);
    }

    // 8: "1 STRIPS that he has, as bits"
    private static void stripsAsBits() {
        LeafVotes x = Due.of("size 9 1;owner a;owner b;strip p 1 0 1 1;strip q 4 0 1 1;strip r 7 0 1 1;field a 0 0 1 1;field b 3 0 1 1;"
            + "field a 8 0 1 1;kind k 1 1;tree k 0 0;tree k 3 0;tree k 8 0;");
        due("a has none", x.owner(0, 1), 0);
        due("b has none", x.owner(1, 1), 0);
        due("voices of a in p", x.voices(0, 0, STILL, 1), 1);
        due("voices of b in p", x.voices(1, 0, STILL, 1), 1);
        due("voices of b in q", x.voices(1, 1, STILL, 1), 1);
        due("voices of a in q", x.voices(0, 1, STILL, 1), 0);
        due("voices of a in r", x.voices(0, 2, STILL, 1), 1);
        x.blow(STILL, 1);
        due("a has r", x.owner(0, 1), 4);
        due("b has q", x.owner(1, 1), 2);
        x.fell(0);
        x.blow(STILL, 1);
        due("a has r still", x.owner(0, 1), 4);
        due("b has p and q", x.owner(1, 1), 3);
        x.fell(1);
        x.plant(0, 0, 0);
        x.blow(STILL, 1);
        due("a has p and r", x.owner(0, 1), 5);
        due("b has q still", x.owner(1, 1), 2);
        due("cells of a", x.owner(0, 0), 4);
        due("cells of b", x.owner(1, 0), 2);
    }

    // 10: "5 LEAVES lost in the latest autumn (NONE: none was)"
    private static void lostYet() {
        LeafVotes x = Due.of("size 1 1;kind k 12 1;tree k 0 0;");
        due("none was", x.now(5), NONE);
        x.blow(STILL, 1);
        due("none is lost", x.now(5), 0);
        x.blow(EAST, 4);
        due("all but three", x.now(5), 9);
        x.undo();
        x.undo();
        due("none was again", x.now(5), NONE);
    }

    // 16: "how many more can be (8 at most are kept); NONE: none is"
    private static void eightAreKept() {
        LeafVotes x = Due.of(YARD);
        Deque<Integer> kept = new ArrayDeque<>();
        // Up and down, so that the places that are kept go round more than once.
        int[] steps = {3, -4, 8, -8, -1, 9, -3, 5, -9, 20, -2, 1, -8, 7, -5, 12, -9};
        for (int step : steps) {
            for (int n = 0; n < Math.abs(step); n++) {
                if (step > 0) {
                    kept.addLast(x.now(0));
                    due("an autumn", x.blow(EAST, 1), 0);
                    if (kept.size() > 8) {
                        kept.removeFirst();
                    }
                } else if (kept.isEmpty()) {
                    int year = x.now(0);
                    due("none is", x.undo(), NONE);
                    due("the year stays", x.now(0), year);
                } else {
                    int year = kept.removeLast();
                    due("how many more", x.undo(), kept.size());
                    due("the year", x.now(0), year);
                }
            }
        }
    }

    // 16: "The latest of blow(), plant(), fell(), wall(), rake() that was done, drawn() above 0, a ROLL that was lived is undone"
    private static void whatIsUndone() {
        LeafVotes x = Due.of(YARD);
        LeafVotes twin = Due.of(YARD);
        Seen.alike("ahead", x, twin);
        Runnable[] acts = {() -> x.blow(SOUTH, 2), () -> x.plant(1, 0, 0), () -> x.fell(1), () -> x.wall(1, 2), () -> x.rake(2, 2),
            () -> x.drawn(4, 9), () -> Due.roll(x, "blows east 1;plants l 2 0;fells 2;walls 1 4;rakes 0 0;rakes 0 0;walls 0 4;", 1)};
        String[] ahead = new String[acts.length];
        for (int n = 0; n < acts.length; n++) {
            ahead[n] = land(x);
            acts[n].run();
            Due.due("act " + n + " did something", land(x).equals(ahead[n]), false);
        }
        // What is no act is not what is undone.
        x.bestTree(0, 0, 0, 1);
        x.bestWall(0, 0);
        x.duel(0, 1, 0, 0);
        x.odds(0, 0, 5, 1);
        x.image(0);
        Due.roll(x, "rakes 2 1;", 0);
        Due.sentence(x, "alive");
        sacks(x, 1, 1);
        x.raked(EAST, 1);
        for (int n = acts.length - 1; n >= 0; n--) {
            due("undo of act " + n, x.undo(), n);
            Due.due("act " + n + " is undone", land(x).equals(ahead[n]), true);
        }
        due("no more", x.undo(), NONE);
    }

    /** What is so, without what calls told last. */
    private static String land(LeafVotes x) {
        String seen = Seen.of(x);
        return seen.substring(0, seen.indexOf(" fault "));
    }

    // 22: "a fraction in least terms (0 above, 1 below)"
    private static void leastTerms() {
        for (int first = 1; first <= 9; first++) {
            for (int second = 1; second <= 9; second++) {
                LeafVotes x = Due.of("size 3 3;owner a;owner b;field a 0 0 3 1;field b 0 2 3 1;strip s 0 1 3 1;kind k 2 1;tree k 1 1;"
                    + "wind north 1 " + first + ";wind south 1 " + second + ";");
                int common = 1;
                for (int d = 2; d <= 18; d++) {
                    common = first % d == 0 && (first + second) % d == 0 ? d : common;
                }
                due("above of " + first + " " + second, x.likely(0, 0, 0), first / common);
                due("below of " + first + " " + second, x.likely(0, 0, 1), (first + second) / common);
            }
        }
        LeafVotes x = Due.of(ROW + "wind east 1 9;wind west 1 9;");
        due("never: 0 above", x.likely(0, 0, 0), 0);
        due("never: 1 below", x.likely(0, 0, 1), 1);
        LeafVotes y = Due.of(ROW + "kind k 1 1;tree k 2 0;wind east 1 9;wind west 1 6;");
        due("sure: 1 above", y.likely(0, 0, 0), 1);
        due("sure: 1 below", y.likely(0, 0, 1), 1);
    }

    // 24: "NONE: not as told (a byte for each OWNER, one at least)"
    private static void byteForEachOwner() {
        String text = "";
        for (int owners = 0; owners <= 4; owners++) {
            for (int bytes = 0; bytes <= 5; bytes++) {
                LeafVotes x = Due.of(text);
                sacks(x, new int[bytes]);
                boolean asTold = owners > 0 && bytes == owners;
                due("blew of " + bytes + " for " + owners, x.blew(), asTold ? 17 : NONE);
                due("the tape then", x.count(7), 0);
                sacks(x, new int[bytes]);
                due("raked of " + bytes + " for " + owners, x.raked(EAST, 2), asTold ? 0 : NONE);
                due("the tape then, too", x.count(7), 0);
            }
            text += "owner o" + (char) ('a' + owners) + ";";
        }
    }

    // 25: "by the latest blew() that was 1 or more; NONE ahead of any"
    private static void latestBlew() {
        LeafVotes x = Due.of("size 5 1;owner a;field a 0 0 2 1;kind k 5 1;tree k 1 0;");
        due("ahead of any", x.wind(), NONE);
        sacks(x, 99);
        due("0", x.blew(), 0);
        due("ahead of one that was 1", x.wind(), NONE);
        due("NONE", x.blew(), NONE);
        due("still ahead", x.wind(), NONE);
        sacks(x, 3);
        due("by north, east, south 1 and west 3", x.blew(), 4);
        due("north 1", x.wind(), 11);
        sacks(x, 4);
        due("half goes west, and a part is lost", x.blew(), 1);
        due("west 2", x.wind(), 42);
        sacks(x, 0);
        due("0 again", x.blew(), 0);
        sacks(x, 0, 0);
        due("NONE again", x.blew(), NONE);
        due("west 2 all the same", x.wind(), 42);
        x.undo();
        Due.parish(x, "");
        due("behind a new parish", x.wind(), 42);
    }

    // 26: "how many cells (0, too, if SACKS are so without)"; 27: "by the latest raked() that was 1 or more; NONE ahead of any"
    private static void latestRaked() {
        LeafVotes x = Due.of("size 2 2;owner a;field a 0 0 2 2;kind k 2 1;kind l 1 1;tree k 1 0;tree k 1 1;tree l 0 1;");
        due("ahead of any", x.where(), NONE);
        sacks(x, 5);
        due("so without", x.raked(STILL, 1), 0);
        sacks(x, 1);
        due("so by none", x.raked(STILL, 1), 0);
        due("NONE", x.raked(STILL, 1), NONE);
        due("ahead of one that was 1", x.where(), NONE);
        sacks(x, 3);
        due("two", x.raked(STILL, 4), 2);
        due("the first", x.where(), 1);
        sacks(x, 4);
        due("one", x.raked(STILL, 1), 1);
        due("it", x.where(), 10);
        sacks(x, 5);
        due("so without again", x.raked(STILL, 1), 0);
        sacks(x, 4);
        due("no such wind", x.raked(5, 1), NONE);
        due("it all the same", x.where(), 10);
    }

    // 28: "NONE: no such ones, no winds, it can't be planted anywhere"
    private static void nowhereToPlant() {
        String head = "size 2 1;owner a;strip s 0 0 2 1;kind k 1 1;";
        due("no winds", Due.of(head).bestTree(0, 0, 0, 0), NONE);
        LeafVotes x = Due.of(head + "wind east 1 1;");
        due("two cells", x.bestTree(0, 0, 0, 0), 0);
        due("the first", x.at(), 0);
        x.plant(0, 0, 0);
        due("one cell", x.bestTree(0, 0, 0, 0), 0);
        due("the other", x.at(), 1);
        x.wall(1, 0);
        due("no cell", x.bestTree(0, 0, 0, 0), NONE);
        due("it stays", x.at(), 1);
        x.fell(0);
        due("one cell again", x.bestTree(0, 0, 0, 0), 0);
        for (int n = 1; n < 13; n++) {
            x.plant(0, 0, 0);
            x.fell(n);
        }
        due("a 14th may be", x.bestTree(0, 0, 0, 0), 0);
        x.plant(0, 0, 0);
        x.fell(13);
        due("a 15th may not", x.bestTree(0, 0, 0, 0), NONE);
    }

    // 29: "CHANCES; NONE: likewise"
    private static void nowhereToWall() {
        String head = "size 6 2;owner a;strip s 0 0 2 1;kind k 1 1;";
        due("no winds", Due.of(head).bestWall(0, 0), NONE);
        LeafVotes x = Due.of(head + "wind east 1 1;");
        for (int n = 0; n < 9; n++) {
            x.wall(n % 6, n / 6);
            due("so many walls: " + (n + 1), x.bestWall(0, 0), 0);
            due("the first", x.at(), n < 5 ? n + 1 : n + 5);
        }
        x.wall(5, 1);
        due("ten walls", x.bestWall(0, 0), NONE);
        LeafVotes y = Due.of("size 1 1;owner a;strip s 0 0 1 1;kind k 1 1;tree k 0 0;wind east 1 1;");
        due("no cell", y.bestWall(0, 0), NONE);
        y.fell(0);
        due("a felled tree's", y.bestWall(0, 0), 0);
        y.plant(0, 0, 0);
        for (int n = 2; n < 14; n++) {
            y.fell(n - 1);
            y.plant(0, 0, 0);
        }
        y.fell(13);
        due("14 trees are nothing to a wall", y.bestWall(0, 0), 0);
    }

    // 30: "NONE: no such ones, alike, no winds, not two can be planted"
    private static void notTwo() {
        String head = "size 3 1;owner a;owner b;strip s 0 0 2 1;kind k 1 1;";
        due("no winds", Due.of(head).duel(0, 1, 0, 0), NONE);
        LeafVotes x = Due.of(head + "wind east 1 1;");
        due("alike", x.duel(0, 0, 0, 0), NONE);
        due("alike, too", x.duel(1, 1, 0, 0), NONE);
        due("three cells", x.duel(0, 1, 0, 0), 0);
        x.wall(0, 0);
        due("two cells", x.duel(0, 1, 0, 0), 0);
        due("the first", x.at(), 1);
        x.plant(0, 1, 0);
        due("one cell", x.duel(0, 1, 0, 0), NONE);
        x.fell(0);
        due("two again", x.duel(0, 1, 0, 0), 0);
        for (int n = 1; n < 12; n++) {
            x.plant(0, 1, 0);
            x.fell(n);
        }
        due("two more trees may be", x.duel(0, 1, 0, 0), 0);
        x.plant(0, 1, 0);
        x.fell(12);
        due("one more may be", x.duel(0, 1, 0, 0), NONE);
        due("by one alone", x.bestTree(0, 0, 0, 0), 0);
    }

    // 31: "The cell by the latest bestTree(), bestWall(), duel() that was not NONE: 10 times Y and X; NONE ahead of any"
    private static void latestAt() {
        LeafVotes x = Due.of(YARD);
        due("ahead of any", x.at(), NONE);
        x.bestTree(0, 0, 9, 0);
        x.bestWall(0, 9);
        x.duel(0, 0, 0, 0);
        due("ahead of one that was not NONE", x.at(), NONE);
        x.bestTree(1, 0, 0, 4);
        int tree = x.at();
        due("a cell", tree >= 0, 1);
        x.bestTree(1, 0, 0, 21);
        due("it stays", x.at(), tree);
        LeafVotes y = Due.of("size 2 2;owner a;strip s 0 0 1 1;kind k 1 1;wall 0 0;wall 1 0;wind east 1 1;");
        y.bestWall(0, 0);
        due("a cell of none", y.at(), 10);
        y.wall(0, 1);
        y.bestTree(0, 0, 0, 0);
        due("the latest", y.at(), 11);
        y.undo();
        due("what is undone is nothing to it", y.at(), 11);
        Due.parish(y, "");
        due("nor is a new parish", y.at(), 11);
    }

    // 32: "n (1 to 60) autumns DRAWN by a seed: how many were; NONE: not as told, no winds"
    private static void drawnAsManyAsMay() {
        due("no winds", Due.of(ROW).drawn(1, 1), NONE);
        LeafVotes x = Due.of(YARD);
        due("1", x.drawn(1, 5), 1);
        due("60", x.drawn(60, 5), 60);
        due("61 years", x.now(0), 61);
        x.drawn(60, 5);
        x.drawn(60, 5);
        due("181 years", x.now(0), 181);
        due("18 may be", x.drawn(19, 5), 18);
        due("199 years", x.now(0), 199);
        due("nothing is raked", x.now(3), 0);
        for (int seed = 0; seed < 10; seed++) {
            due("none may be", x.drawn(60, seed), 0);
            due("nothing is raked by none", x.now(3), 0);
        }
        due("0 is not undone", x.undo(), 4);
        due("181 years again", x.now(0), 181);
        due("18 of 18", x.drawn(18, 5), 18);
        due("0 of 1", x.drawn(1, 5), 0);
    }

    // 33: "Of n (1 to 30) seeds x, x and 1, .. by how many an OWNER has a STRIP behind 5 autumns DRAWN from now on"
    private static void oddsOfSeeds() {
        LeafVotes x = Due.of(YARD);
        x.rake(1, 1);
        int differ = 0;
        for (int from : new int[] {0, 100, -3, Integer.MAX_VALUE - 2, Integer.MIN_VALUE}) {
            int[] sums = new int[2];
            for (int n = 1; n <= 6; n++) {
                x.drawn(5, from + n - 1);
                int holder = x.strip(0, 1);
                x.undo();
                if (holder != NONE) {
                    sums[holder]++;
                }
                due("odds of a by " + n + " from " + from, x.odds(0, 0, n, from), sums[0]);
                due("odds of b by " + n + " from " + from, x.odds(1, 0, n, from), sums[1]);
            }
            differ += sums[0] > 0 && sums[1] > 0 ? 1 : 0;
        }
        due("seeds differ", differ >= 3, 1);
        due("30", x.odds(0, 0, 30, 0) + x.odds(1, 0, 30, 0) <= 30, 1);
        due("all is as it was", x.now(3) * 1000 + x.now(0), 1000);
        due("nothing is to be undone but the rake", x.undo(), 0);
        due("no winds", Due.of(ROW).odds(0, 0, 1, 1), NONE);
    }

    // 34: "lived as far as it is not WRONG (1): the LINE that is WRONG; NONE: none"
    private static void rollWrong() {
        for (int wrong = 0; wrong < 6; wrong++) {
            StringBuilder text = new StringBuilder();
            for (int n = 0; n < 6; n++) {
                text.append(n == wrong ? "fells 13;" : "rakes " + n % 3 + " " + n / 3 + ";");
            }
            LeafVotes x = Due.of(YARD);
            due("judged: line " + wrong, Due.roll(x, text.toString(), 0), wrong);
            due("all stays as it is", x.now(3), 0);
            due("nothing to undo", x.undo(), NONE);
            due("lived: line " + wrong, Due.roll(x, text.toString(), 1), wrong);
            due("as far as that", x.now(3), wrong);
            due("to be undone", x.undo(), 0);
            due("undone", x.now(3), 0);
        }
        LeafVotes x = Due.of(YARD);
        due("an empty one", x.roll(1), NONE);
        due("no line", x.rolled(1), 0);
        due("none wrong", Due.roll(x, "rakes 0 0;rakes 2 4;", 1), NONE);
        due("-1000 with a tape", tapeThenRoll(x, 2), -1000);
        due("the tape stays", x.count(7), 10);
        due("and is a roll then", x.roll(0), NONE);
    }

    private static int tapeThenRoll(LeafVotes x, int lives) {
        Due.tape(x, "rakes 1 1;");
        return x.roll(lives);
    }

    // 35: "Of the latest roll() that had no FAULT (and was not -1000)"; "NONE: another what, or ahead of any"
    private static void rollThen() {
        LeafVotes x = Due.of(YARD);
        for (int what = -1; what < 5; what++) {
            due("ahead of any: " + what, x.rolled(what), NONE);
        }
        Due.roll(x, "rakes 9 9;", 1);
        x.roll(2);
        for (int what = 0; what < 4; what++) {
            due("ahead of one without a fault: " + what, x.rolled(what), NONE);
        }
        due("wrong", Due.roll(x, "blows south 2;blows south 2;fells 3;", 0), 2);
        due("a would have it", x.goes(0, SOUTH, 2), 0);
        int[] want = {29, 2, 2, 0};
        for (int what = 0; what < 4; what++) {
            due("rolled " + what, x.rolled(what), want[what]);
        }
        Due.roll(x, "rakes 9 9;", 0);
        x.roll(-5);
        for (int what = 0; what < 4; what++) {
            due("a fault leaves it: " + what, x.rolled(what), want[what]);
        }
        due("nobody has it now", x.strip(0, 1), NONE);
        due("an empty roll: as now", x.roll(0) + x.rolled(3), -2);
        LeafVotes y = Due.of("size 2 2;kind k 1 1;");
        due("without strips", Due.roll(y, "blows east 1;", 1), NONE);
        due("nobody has strip 0", y.rolled(3), NONE);
        due("year 1", y.rolled(2), 1);
        due("0: it was not", y.rolled(0), 0);
        String[] texts = {"plants k 0 0;plants k 0 0;", "plants k 0 0;fells 0;fells 0;", "fells 0;", "walls 0 0;walls 0 0;", "rakes 0 0;rakes 0 0;",
            "walls 0 0;plants k 0 0;", "plants k 0 0;walls 0 0;", "fells 13;"};
        int[] why = {11, 21, 29, 31, 41, 11, 31, 29};
        for (int n = 0; n < texts.length; n++) {
            Due.roll(y, texts[n], 0);
            due("why of " + texts[n], y.rolled(0), why[n]);
        }
    }

    // 37: "how many (k NONE), or the k-th. NONE: there is no SENTENCE, none such"
    private static void saidOfThose() {
        LeafVotes x = Due.of("size 7 2;kind k 1 1;");
        for (int k = -2; k < 16; k++) {
            due("no sentence: " + k, x.said(k), NONE);
        }
        Due.sentence(x, "alive");
        due("of no trees: how many", x.said(NONE), 0);
        due("of no trees: the first", x.said(0), NONE);
        for (int t = 0; t < 14; t++) {
            x.plant(0, t % 7, t / 7);
        }
        due("of 14", x.said(NONE), 14);
        for (int k = 0; k < 14; k++) {
            due("the k-th is k", x.said(k), k);
        }
        due("no 15th", x.said(14), NONE);
        Due.sentence(x, "not alive");
        due("of none", x.said(NONE), 0);
        x.fell(13);
        x.fell(5);
        due("of felled ones, too", x.said(NONE), 2);
        due("the first", x.said(0), 5);
        due("the second", x.said(1), 13);
        due("no third", x.said(2), NONE);
        Due.sentence(x, "number < 14");
        due("all, felled or not", x.said(NONE), 14);
        Due.sentence(x, "number > 12");
        due("the last", x.said(0), 13);
        due("a sentence with a fault", Due.sentence(x, "number > 12 and"), -16);
        due("it stays", x.said(NONE), 1);
    }

    // 38: "kept in place k (0, 1): true; false: no such one"
    private static void keptInTwoPlaces() {
        LeafVotes x = Due.of(YARD);
        Due.due("0", x.image(0), true);
        x.blow(SOUTH, 2);
        Due.due("1", x.image(1), true);
        x.blow(SOUTH, 2);
        Due.due("2", x.image(2), false);
        Due.due("-1", x.image(-1), false);
        due("it is as it was", x.now(0), 2);
        x.restore(0);
        due("0 has year 0", x.now(0), 0);
        x.restore(1);
        due("1 has year 1", x.now(0), 1);
        x.blow(SOUTH, 2);
        x.blow(SOUTH, 2);
        x.image(0);
        x.restore(1);
        x.restore(0);
        due("0 has year 3 then", x.now(0), 3);
    }

    // 39: "They are as kept in place k (the tape, and what other calls told last, stays; nothing can be undone)"
    private static void restoredAsKept() {
        LeafVotes x = Due.of(YARD);
        x.drawn(3, 4);
        x.rake(1, 1);
        x.wall(2, 2);
        x.plant(1, 0, 0);
        x.fell(2);
        Due.sentence(x, "leaves > 1 or of k");
        String kept = land(x) + x.said(NONE) + x.said(0);
        x.image(1);
        Due.parish(x, "size 9 2;owner z;kind w 1 1 ever;strip f 8 0 1 2;strip g 5 0 2 1;");
        Due.sentence(x, "not number < 99 and y = 3");
        x.rake(8, 0);
        x.wall(3, 0);
        x.image(0);
        Due.tape(x, "abcde");
        x.roll(9);
        Due.due("restored", x.restore(1), true);
        due("the tape stays", x.count(7), 5);
        x.end(0);
        Due.due("as kept", kept.equals(land(x) + x.said(NONE) + x.said(0)), true);
        due("nothing can be undone", x.undo(), NONE);
        due("names are as kept", Due.roll(x, "plants l 2 0;", 0), NONE);
        due("and no others", Due.roll(x, "plants w 2 0;", 0), -2 - 7);
        x.blow(EAST, 1);
        due("what is done since can", x.undo(), 0);
        Due.due("as kept still", kept.equals(land(x) + x.said(NONE) + x.said(0)), true);
        x.blow(EAST, 1);
        x.fell(0);
        Due.due("restored again", x.restore(1), true);
        due("nothing can be undone again", x.undo(), NONE);
        Due.due("as kept again", kept.equals(land(x) + x.said(NONE) + x.said(0)), true);
        Due.due("the other", x.restore(0), true);
        due("has its sentence", x.said(NONE), 0);
        due("is 9 2", x.count(0) * 10 + x.count(1), 92);
        due("has its strips' cells", x.strip(0, 0) * 10 + x.strip(1, 0), 22);
        due("has its strips", x.cell(8, 0, 1) * 10 + x.cell(6, 0, 1), 1);
        due("has what is raked", x.cell(8, 0, 4), 1);
        due("has its wall", x.cell(3, 0, 3), 1);
        x.plant(0, 7, 0);
        due("has its strips' places", x.tree(0, 5), 3);
        due("has its evergreen", Due.sentence(x, "ever") * 10 + x.said(NONE), 11);
        LeafVotes y = new LeafVotes();
        Due.due("nothing is kept in 0", y.restore(0), false);
        Due.due("nor in 1", y.restore(1), false);
        y.rake(0, 0);
        due("a restore of nothing leaves what can be undone", y.restore(1) ? 9 : y.undo(), 0);
        y.image(0);
        y.rake(5, 5);
        Due.due("a new object can be kept", y.restore(0), true);
        due("as it was", y.now(3), 0);
    }

    // 40: "5 TREES (felled ones, too), 6 winds, 7 bytes of the tape. NONE for another what"
    private static void countsOfAll() {
        LeafVotes x = Due.of(YARD);
        int[] want = {3, 5, 2, 1, 2, 3, 4, 0};
        for (int what = 0; what < 8; what++) {
            due("count " + what, x.count(what), want[what]);
        }
        for (int t = 0; t < 3; t++) {
            x.fell(t);
            due("felled ones, too", x.count(5), 3);
        }
        x.plant(0, 0, 0);
        due("planted ones", x.count(5), 4);
        x.undo();
        due("undone", x.count(5), 3);
        for (int n = 1; n <= 47; n++) {
            x.feed(1, 2, 3, 4, 5);
        }
        due("940 bytes", x.count(7), 940);
        due("-1", x.count(-1), NONE);
        due("8", x.count(8), NONE);
    }
}
