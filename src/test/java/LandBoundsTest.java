import java.util.ArrayList;
import java.util.List;

/**
 * Every sentence of the document behind ==== 2 that names a boundary, in the document's order: each has its own test.
 * What is behind ==== 3 and in the promises is in PromiseBoundsTest, what wrong arguments answer is in RefusedTest.
 */
public final class LandBoundsTest {
    private static final int NONE = LeafVotes.NONE;
    private static final int STILL = 0;
    private static final int NORTH = 1;
    private static final int EAST = 2;
    private static final int SOUTH = 3;
    private static final int WEST = 4;
    private static final int[] STEP_X = {0, 0, 1, 0, -1};
    private static final int[] STEP_Y = {0, -1, 0, 1, 0};

    /** One row: a's cells 0 to 2, the strip 3, b's cells 4 to 6. */
    private static final String ROW = "size 7 1;owner a;owner b;field a 0 0 3 1;field b 4 0 3 1;strip s 3 0 1 1;";

    public static void main(String[] args) {
        calls512();
        nobodyAtFirst();
        leavesAtMost();
        leavesOfToldTrees();
        leafByLeaf();
        stillGoesNowhere();
        aheadOfAWall();
        beyondTheParish();
        rakedCountsForNobody();
        sayWithinTwo();
        voteOfNone();
        voteOfTwoAlike();
        voteOfEvergreen();
        leavesInThatStrip();
        stripOfNone();
        stripOfTwoAlike();
        stripsByWhatWasAhead();
        sacksAsTheyWereAhead();
        nothingIsRakedAnyMore();
        years199();
        plantWhy();
        fellWhy();
        wallWhy();
        rakeWhy();
        Due.close();
    }

    private static void due(String what, long got, long want) {
        Due.due(what, got, want);
    }

    // "An object is used for at most 512 calls after it has been made"
    private static void calls512() {
        LeafVotes x = new LeafVotes();
        for (int n = 1; n <= 511; n++) {
            if (n % 3 == 1) {
                due("call " + n, x.rake(n % 6, n / 6 % 6), 0);
            } else if (n % 3 == 2) {
                due("call " + n, x.now(3), 1);
            } else {
                due("call " + n, x.undo(), 0);
            }
        }
        due("the 512th call", x.count(0), 6);
    }

    // "else nobody's. (Nobody has a STRIP at first.)"
    private static void nobodyAtFirst() {
        LeafVotes x = Due.of("owner a;field a 0 0 1 1;strip s 1 0 1 1;strip t 2 0 1 1;strip u 3 0 1 1;");
        for (int c = 0; c < 36; c++) {
            due("owner of " + c, x.cell(c % 6, c / 6, 0), c == 0 ? 0 : NONE);
        }
        for (int s = 0; s < 3; s++) {
            due("who has " + s, x.strip(s, 1), NONE);
        }
        due("cells of a", x.owner(0, 0), 1);
    }

    // "one that was planted 1, and 1 more for each autumn behind that, that many at most"
    private static void leavesAtMost() {
        LeafVotes x = Due.of("kind k 12 1;kind l 1 1;kind m 2 1;");
        x.blow(STILL, 1);
        x.plant(0, 0, 0);
        x.plant(1, 1, 0);
        x.plant(2, 2, 0);
        for (int autumns = 0; autumns < 15; autumns++) {
            due("of 12 behind " + autumns, x.tree(0, 3), Math.min(12, 1 + autumns));
            due("of 1 behind " + autumns, x.tree(1, 3), 1);
            due("of 2 behind " + autumns, x.tree(2, 3), Math.min(2, 1 + autumns));
            due("where they lie", x.leaves(0, 0, STILL, 1), Math.min(12, 1 + autumns));
            x.blow(STILL, 1);
        }
        x.fell(0);
        x.plant(0, 0, 0);
        due("a new one in its place begins anew", x.tree(3, 3), 1);
    }

    // "LEAVES: as many as its KIND, if it was told"
    private static void leavesOfToldTrees() {
        for (int leaves = 1; leaves <= 12; leaves++) {
            LeafVotes x = Due.of("kind k " + leaves + " 1;tree k 0 0;");
            due("told " + leaves, x.tree(0, 3), leaves);
            x.blow(STILL, 1);
            due("told " + leaves + ", a year later", x.tree(0, 3), leaves);
            x.fell(0);
            due("felled", x.tree(0, 3), 0);
        }
    }

    /** How many of so many leaves go so far by a force. */
    private static int going(int leaves, int far, int force) {
        int n = 0;
        for (int k = 0; k < leaves; k++) {
            n += k % (force + 1) == far ? 1 : 0;
        }
        return n;
    }

    // "By a WAY and a FORCE LEAF k (from 0) goes k % (FORCE and 1) cells that WAY"
    private static void leafByLeaf() {
        for (int leaves = 1; leaves <= 12; leaves++) {
            LeafVotes x = Due.of("size 9 9;kind k " + leaves + " 1;tree k 4 4;");
            for (int way = 1; way < 5; way++) {
                for (int force = 1; force <= 4; force++) {
                    for (int far = 0; far <= 4; far++) {
                        due(leaves + " leaves by " + way + " " + force + " in " + far,
                            x.leaves(4 + far * STEP_X[way], 4 + far * STEP_Y[way], way, force), going(leaves, far, force));
                    }
                    due("none the other way", x.leaves(4 - STEP_X[way], 4 - STEP_Y[way], way, force), 0);
                }
            }
        }
    }

    // "(none, if it is still)"
    private static void stillGoesNowhere() {
        LeafVotes x = Due.of("size 3 3;kind k 12 1;tree k 1 1;");
        for (int force = 1; force <= 4; force++) {
            for (int c = 0; c < 9; c++) {
                due("still " + force + " in " + c, x.leaves(c % 3, c / 3, STILL, force), c == 4 ? 12 : 0);
            }
            due("blown", x.blow(STILL, force), 0);
            due("none is lost", x.now(5), 0);
        }
    }

    // "cell by cell: it stays ahead of a wall"
    private static void aheadOfAWall() {
        for (int way = 1; way < 5; way++) {
            for (int wall = 1; wall <= 5; wall++) {
                // Far enough from each edge for five cells, since the tree stands nearer to the one it blows from.
                int tx = way == EAST ? 4 : 5;
                int ty = way == SOUTH ? 4 : 5;
                LeafVotes x = Due.of("size 10 10;kind k 10 1;tree k " + tx + " " + ty + ";wall " + (tx + wall * STEP_X[way]) + " "
                    + (ty + wall * STEP_Y[way]) + ";");
                for (int far = 0; far <= 4; far++) {
                    int want = far < wall ? 2 : 0;
                    want += far == wall - 1 ? 2 * (4 - far) : 0;
                    due("a wall at " + wall + ", " + far + " by " + way,
                        x.leaves(tx + far * STEP_X[way], ty + far * STEP_Y[way], way, 4), want);
                }
                due("none is lost", x.blow(way, 4) + x.now(5), 0);
            }
        }
        // A wall that is not in the way, and one behind the tree.
        LeafVotes x = Due.of("size 5 5;kind k 4 1;tree k 2 2;wall 1 2;wall 3 1;wall 3 3;");
        due("past walls", x.leaves(3, 2, EAST, 1), 2);
        due("a wall at the edge keeps leaves from being lost", Due.of("size 2 1;kind k 4 1;tree k 0 0;wall 1 0;").leaves(0, 0, EAST, 4), 4);
    }

    // "beyond the PARISH it is lost"
    private static void beyondTheParish() {
        for (int way = 1; way < 5; way++) {
            for (int far = 0; far <= 5; far++) {
                // The tree stands so far from the edge to which it blows.
                int tx = way == EAST ? 9 - far : way == WEST ? far : 5;
                int ty = way == SOUTH ? 9 - far : way == NORTH ? far : 5;
                LeafVotes x = Due.of("size 10 10;kind k 11 1;tree k " + tx + " " + ty + ";");
                for (int force = 1; force <= 4; force++) {
                    int want = 0;
                    for (int goes = far + 1; goes <= force; goes++) {
                        want += going(11, goes, force);
                    }
                    due("blown", x.blow(way, force), 0);
                    due("lost by " + way + " " + force + " at " + far, x.now(5), want);
                }
            }
        }
        LeafVotes x = Due.of("size 1 1;owner a;field a 0 0 1 1;kind k 12 1;tree k 0 0;");
        x.blow(NORTH, 1);
        due("half is lost of one cell", x.now(5), 6);
        due("half is his", x.owner(0, 2), 6);
    }

    // "LEAVES in a cell that is raked count for nobody"
    private static void rakedCountsForNobody() {
        LeafVotes x = Due.of(ROW + "kind k 3 1;tree k 2 0;");
        due("not raked", x.votes(0, 0, STILL, 1), 0);
        x.rake(2, 0);
        due("raked: no vote", x.votes(0, 0, STILL, 1), NONE);
        due("raked: no sack", x.sack(0, STILL, 1), 0);
        due("raked: they lie there all the same", x.leaves(2, 0, STILL, 1), 3);
        due("raked: it goes to nobody", x.goes(0, STILL, 1), NONE);
        x.blow(STILL, 1);
        due("raked: blown", x.owner(0, 2), 0);
        due("raked: none is lost by it", x.now(5), 0);
    }

    // "a SAY in a STRIP, if it is alive and stands in it or no more than 2 cells from it (east or west, and north or south)"
    private static void sayWithinTwo() {
        for (int c = 0; c < 100; c++) {
            int x = c % 10;
            int y = c / 10;
            LeafVotes v = Due.of("size 10 10;strip s 4 5 2 1;strip t 0 0 1 1;strip u 9 9 1 1;kind k 1 1;tree k " + x + " " + y + ";");
            int want = x >= 2 && x <= 7 && y >= 3 && y <= 7 ? 1 : 0;
            want += x <= 2 && y <= 2 ? 2 : 0;
            want += x >= 7 && y >= 7 ? 4 : 0;
            due("say at " + x + " " + y, v.tree(0, 5), want);
            for (int s = 0; s < 3; s++) {
                due("who has a say in " + s + " at " + x + " " + y, v.strip(s, 2), want >> s & 1);
            }
            v.fell(0);
            due("felled at " + x + " " + y, v.tree(0, 5) + v.strip(0, 2) + v.strip(1, 2) + v.strip(2, 2), 0);
        }
    }

    // "nobody: none does"
    private static void voteOfNone() {
        LeafVotes x = Due.of(ROW + "kind k 2 1;kind l 1 1;tree k 3 0;");
        due("all in nobody's strip", x.votes(0, 0, STILL, 1), NONE);
        due("one beyond it", x.votes(0, 0, EAST, 1), 1);
        LeafVotes y = Due.of("size 3 1;owner a;strip s 1 0 1 1;kind k 3 1;tree k 0 0;");
        due("in cells of nobody", y.votes(0, 0, STILL, 1), NONE);
        due("all lost but one in a cell of nobody", y.votes(0, 0, WEST, 4), NONE);
    }

    // "two are alike"
    private static void voteOfTwoAlike() {
        for (int leaves = 1; leaves <= 12; leaves++) {
            LeafVotes x = Due.of("size 3 1;owner a;owner b;field a 0 0 1 1;field b 1 0 1 1;strip s 2 0 1 1;kind k " + leaves + " 1;tree k 0 0;");
            due(leaves + " leaves in two cells", x.votes(0, 0, EAST, 1), leaves % 2 == 0 ? NONE : 0);
        }
        // Two alike below the most are nothing to it; two alike at the most, of three, are.
        String three = "size 4 1;owner a;owner b;owner c;field a 0 0 1 1;field b 1 0 1 1;field c 2 0 1 1;strip s 3 0 1 1;tree k 2 0;";
        String[] votes = {"6 nobody: 2 2 2", "5 nobody: 1 2 2", "4 c: 1 1 2", "3 nobody: 1 1 1", "2 nobody: 0 1 1", "1 c: 0 0 1"};
        for (String vote : votes) {
            LeafVotes x = Due.of("kind k " + vote.charAt(0) + " 1;" + three);
            due(vote, x.votes(0, 0, WEST, 2), vote.charAt(2) == 'c' ? 2 : NONE);
        }
    }

    // "or it is an evergreen"
    private static void voteOfEvergreen() {
        LeafVotes x = Due.of(ROW + "kind k 3 1;kind e 3 9 ever;tree k 2 0;tree e 4 0;");
        due("one that is not", x.votes(0, 0, STILL, 1), 0);
        due("one that is", x.votes(1, 0, STILL, 1), NONE);
        due("it has a say all the same", x.tree(1, 5), 1);
        due("it is not heard", x.voices(1, 0, STILL, 1), 0);
        due("its leaves count in sacks", x.sack(1, STILL, 1), 3);
        x.plant(1, 5, 0);
        x.blow(STILL, 1);
        due("it voted for nobody", x.tree(1, 6), NONE);
        due("planted, neither", x.tree(2, 6), NONE);
        due("it goes by the other", x.strip(0, 1), 0);
    }

    // "LEAVES in cells of that STRIP are let out of account for it"
    private static void leavesInThatStrip() {
        LeafVotes x = Due.of("size 5 1;owner a;owner b;field a 0 0 1 1;field b 4 0 1 1;strip s 1 0 2 1;strip t 3 0 1 1;"
            + "kind k 5 1;kind j 1 9;tree j 0 0;tree k 2 0;");
        x.blow(STILL, 1);
        due("s is a's", x.strip(0, 1), 0);
        due("t is a's, by a tree in s that was nobody's? no: nobody's", x.strip(1, 1), NONE);
        due("in t by leaves in s", x.votes(1, 1, STILL, 1), 0);
        due("in s by leaves in s", x.votes(1, 0, STILL, 1), NONE);
        due("in s by what is beyond t: b", x.votes(1, 0, EAST, 2), 1);
        due("in t by leaves in s, more than b's", x.votes(1, 1, EAST, 2), 0);
        due("they are in the sack", x.sack(0, STILL, 1), 6);
    }

    // "if none is .. it stays whose it is"
    private static void stripOfNone() {
        LeafVotes x = Due.of(ROW + "kind k 3 1;tree k 2 0;");
        x.fell(0);
        due("nobody's", x.goes(0, STILL, 1), NONE);
        x.undo();
        x.blow(STILL, 1);
        x.fell(0);
        due("a's", x.goes(0, STILL, 1), 0);
        x.blow(STILL, 1);
        due("it stays a's", x.strip(0, 1), 0);
        due("it changed once", x.strip(0, 3), 1);
    }

    // "or two are alike, it stays whose it is"
    private static void stripOfTwoAlike() {
        LeafVotes x = Due.of(ROW + "kind k 1 9;kind l 1 8;tree k 2 0;tree k 4 0;tree l 5 0;");
        due("9 and 17", x.goes(0, STILL, 1), 1);
        x.fell(2);
        due("9 and 9: nobody's", x.goes(0, STILL, 1), NONE);
        x.undo();
        x.blow(STILL, 1);
        x.fell(2);
        due("9 and 9: it stays b's", x.goes(0, STILL, 1), 1);
        x.blow(STILL, 1);
        due("it stays b's", x.strip(0, 1), 1);
        // By one voice.
        x.plant(0, 1, 0);
        due("18 and 9", x.goes(0, STILL, 1), 0);
        x.fell(0);
        due("9 and 9 again", x.goes(0, STILL, 1), 1);
        x.fell(1);
        due("9 and none", x.goes(0, STILL, 1), 0);
        LeafVotes y = Due.of(ROW + "kind k 1 9;kind l 1 8;tree k 2 0;tree l 4 0;");
        due("9 and 8", y.goes(0, STILL, 1), 0);
        // Three owners, of whom two have most alike, or two less alike.
        String three = "size 3 3;owner a;owner b;owner c;field a 0 0 3 1;strip s 0 1 3 1;field b 0 2 1 1;field c 2 2 1 1;kind k 1 2;kind l 1 3;";
        due("2 2 2", Due.of(three + "tree k 0 0;tree k 0 2;tree k 2 2;").goes(0, STILL, 1), NONE);
        due("3 2 2", Due.of(three + "tree l 0 0;tree k 0 2;tree k 2 2;").goes(0, STILL, 1), 0);
        due("2 3 3", Due.of(three + "tree k 0 0;tree l 0 2;tree l 2 2;").goes(0, STILL, 1), NONE);
        due("3 2 3", Due.of(three + "tree l 0 0;tree k 0 2;tree l 2 2;").goes(0, STILL, 1), NONE);
        due("2 2 3", Due.of(three + "tree k 0 0;tree k 0 2;tree l 2 2;").goes(0, STILL, 1), 2);
    }

    // "To BLOW (an autumn): all STRIPS by what was ahead of it"
    private static void stripsByWhatWasAhead() {
        // A leaf in p makes a vote in q, once p is a's; a leaf in q one in p: neither is by what the same autumn brings.
        for (String strips : new String[] {"strip p 1 0 1 1;strip q 3 0 1 1;", "strip q 3 0 1 1;strip p 1 0 1 1;"}) {
            LeafVotes x = Due.of("size 4 1;owner a;field a 0 0 1 1;" + strips + "kind k 1 1;tree k 0 0;tree k 1 0;");
            int p = strips.startsWith("strip p") ? 0 : 1;
            x.blow(STILL, 1);
            due("p goes by the tree in a's field", x.strip(p, 1), 0);
            due("q does not yet by the tree in p", x.strip(1 - p, 1), NONE);
            x.blow(STILL, 1);
            due("q goes then", x.strip(1 - p, 1), 0);
        }
    }

    // "the SACK of each OWNER has the LEAVES that counted, in his cells (as they were ahead)"
    private static void sacksAsTheyWereAhead() {
        LeafVotes x = Due.of(ROW + "kind k 2 1;tree k 2 0;tree k 3 0;");
        x.blow(STILL, 1);
        due("a has the strip", x.strip(0, 1), 0);
        due("without the strip that he had not", x.owner(0, 2), 2);
        x.blow(STILL, 1);
        due("with it", x.owner(0, 2), 4);
        x.fell(0);
        x.plant(0, 4, 0);
        x.blow(STILL, 1);
        due("b has the strip", x.strip(0, 1), 1);
        due("a's sack has what lay in it", x.owner(0, 2), 2);
        due("b's has not", x.owner(1, 2), 1);
    }

    // "nothing is raked any more"
    private static void nothingIsRakedAnyMore() {
        LeafVotes x = Due.of("size 10 10;");
        for (int c = 0; c < 100; c += 3) {
            x.rake(c % 10, c / 10);
        }
        due("34 are", x.now(3), 34);
        x.blow(STILL, 1);
        due("none is", x.now(3), 0);
        due("cell 9 9", x.cell(9, 9, 4), 0);
        due("it can be raked again", x.rake(9, 9), 0);
        x.undo();
        x.undo();
        due("34 are again", x.now(3), 34);
        due("cell 9 9 again", x.cell(9, 9, 4), 1);
    }

    // "199 YEARS at most: 1: there were as many"
    private static void years199() {
        LeafVotes x = Due.of(ROW + "kind k 12 1;tree k 2 0;wind still 1 1;");
        for (int year = 0; year < 199; year++) {
            due("autumn " + year, x.blow(year % 5, 1 + year % 4), 0);
        }
        due("199 years", x.now(0), 199);
        x.rake(2, 0);
        due("one more", x.blow(STILL, 1), 1);
        due("it did not", x.now(0), 199);
        due("what is raked stays", x.now(3), 1);
        due("the rake is what is undone", x.undo(), 7);
        due("no autumn drawn", x.drawn(1, 1), 0);
        due("none in a roll", Due.roll(x, "rakes 0 0;blows still 1;rakes 1 0;", 1), 1);
        due("why", x.rolled(0), 1);
        due("the year then", x.rolled(2), 199);
        due("the roll is undone", x.undo(), 7);
        due("an autumn is undone", x.undo(), 6);
        due("198 years", x.now(0), 198);
        due("one more may be", x.blow(STILL, 1), 0);
        due("and then none", x.blow(STILL, 1), 1);
    }

    // "To PLANT: 1 a tree that is alive or a wall is there; 2 there are 14 trees"
    private static void plantWhy() {
        LeafVotes x = Due.of("size 10 2;kind k 1 1;tree k 0 0;wall 1 0;");
        due("a tree", x.plant(0, 0, 0), 1);
        due("a wall", x.plant(0, 1, 0), 1);
        x.fell(0);
        due("a felled tree", x.plant(0, 0, 0), 0);
        for (int n = 2; n < 14; n++) {
            due("tree " + n, x.plant(0, n % 10, n / 10), 0);
        }
        due("14", x.count(5), 14);
        due("13 of them alive", Integer.bitCount(x.now(1)), 13);
        due("a fifteenth", x.plant(0, 9, 1), 2);
        due("in a tree's cell", x.plant(0, 5, 0), 1);
        due("in a wall's cell", x.plant(0, 1, 0), 1);
        x.fell(13);
        due("felling makes no room", x.plant(0, 9, 1), 2);
        x.undo();
        x.undo();
        due("undoing does", x.plant(0, 9, 1), 0);
        due("once", x.plant(0, 8, 1), 2);
    }

    // "To FELL: 1 it is felled"
    private static void fellWhy() {
        LeafVotes x = Due.of("kind k 1 1;tree k 0 0;tree k 1 0;");
        due("felled", x.fell(1), 0);
        due("again", x.fell(1), 1);
        due("the other", x.fell(0), 0);
        x.undo();
        x.undo();
        due("undone", x.fell(1), 0);
        due("a planted one", x.plant(0, 3, 3) + x.fell(2), 0);
        due("again, too", x.fell(2), 1);
    }

    // "To WALL: 1 likewise; 2 there are 10 walls"
    private static void wallWhy() {
        LeafVotes x = Due.of("size 10 2;kind k 1 1;tree k 0 0;wall 1 0;");
        due("a tree", x.wall(0, 0), 1);
        due("a wall", x.wall(1, 0), 1);
        x.fell(0);
        due("a felled tree", x.wall(0, 0), 0);
        for (int n = 2; n < 10; n++) {
            due("wall " + n, x.wall(n, 0), 0);
        }
        due("10", x.now(2), 10);
        due("an eleventh", x.wall(0, 1), 2);
        due("in a wall's cell", x.wall(9, 0), 1);
        x.plant(0, 1, 1);
        due("in a tree's cell", x.wall(1, 1), 1);
        x.undo();
        x.undo();
        due("undone: one more may be", x.wall(0, 1), 0);
    }

    // "To RAKE: 1 it is raked"
    private static void rakeWhy() {
        LeafVotes x = Due.of("size 2 2;kind k 1 1;tree k 0 0;wall 1 0;");
        for (int c = 0; c < 4; c++) {
            due("rake " + c, x.rake(c % 2, c / 2), 0);
            due("again " + c, x.rake(c % 2, c / 2), 1);
            due("cells", x.now(3), c + 1);
        }
        List<Integer> more = new ArrayList<>();
        for (int c = 0; c < 5; c++) {
            more.add(x.undo());
        }
        due("four were", more.equals(List.of(3, 2, 1, 0, NONE)) ? 1 : 0, 1);
    }
}
