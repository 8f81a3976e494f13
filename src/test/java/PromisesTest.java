/** Every promise of the document, by its number, with answers that were worked out by hand. */
public final class PromisesTest {
    private static final int NONE = LeafVotes.NONE;
    private static final int STILL = 0;
    private static final int NORTH = 1;
    private static final int EAST = 2;
    private static final int SOUTH = 3;
    private static final int WEST = 4;

    /** One row: cells 0 to 2 are a's, 3 is the strip, 4 to 6 are b's; tree 0 at 2, 1 at 0 (no say), 2 at 5 (ever). */
    private static final String ROW = "size 7 1;owner a;owner b;field a 0 0 3 1;field b 4 0 3 1;strip s 3 0 1 1;"
        + "kind k 4 3;kind q 1 1;kind e 5 9 ever;tree k 2 0;tree q 0 0;tree e 5 0;"
        + "wind east 3 2;wind west 1 3;wind still 2 4;wind north 4 1;";

    public static void main(String[] args) {
        newObject();
        tape();
        parish();
        fault();
        tree();
        cell();
        owner();
        strip();
        now();
        blow();
        plant();
        fell();
        wall();
        rake();
        undo();
        undoAmongTexts();
        leaves();
        votes();
        votesInSeveralStrips();
        voicesAndGoes();
        sack();
        likely();
        decides();
        blew();
        raked();
        bestTree();
        bestWall();
        duel();
        drawn();
        odds();
        roll();
        rolled();
        sentence();
        said();
        images();
        count();
        Due.close();
    }

    private static LeafVotes row() {
        return Due.of(ROW);
    }

    private static void due(String what, long got, long want) {
        Due.due(what, got, want);
    }

    // 1
    private static void newObject() {
        LeafVotes x = new LeafVotes();
        due("1 wide", x.count(0), 6);
        due("1 high", x.count(1), 6);
        for (int what = 2; what < 8; what++) {
            due("1 count " + what, x.count(what), 0);
        }
        due("1 year", x.now(0), 0);
        due("1 fault", x.fault(), 0);
        due("1 undo", x.undo(), NONE);
        due("1 wind", x.wind(), NONE);
        due("1 where", x.where(), NONE);
        due("1 at", x.at(), NONE);
        due("1 rolled", x.rolled(0), NONE);
        due("1 said", x.said(NONE), NONE);
        Due.due("1 restore", x.restore(0), false);
        for (int c = 0; c < 36; c++) {
            due("1 owner of cell " + c, x.cell(c % 6, c / 6, 0), NONE);
            due("1 wall in cell " + c, x.cell(c % 6, c / 6, 3), 0);
        }
    }

    // 2, 3
    private static void tape() {
        LeafVotes x = new LeafVotes();
        due("2 first", x.feed(0x6f776e65, 0x7220613b, 0x6f776e65, 0x7220623b, 0), 20);
        Due.due("3 to 16", x.end(16), true);
        due("2 behind 16", x.feed(0x6f776e65, 0x7220633b, -1, -1, -1), 36);
        Due.due("3 to 24", x.end(24), true);
        due("2 and 3 make a text", x.parish(), 3);
        for (int n = 1; n <= 47; n++) {
            due("2 feed " + n, x.feed(n, n, n, n, n), 20 * n);
        }
        due("2 no more than 940", x.feed(0, 0, 0, 0, 0), NONE);
        due("2 none came", x.count(7), 940);
        Due.due("3 941", x.end(941), false);
        Due.due("3 -1", x.end(-1), false);
        due("3 it stays", x.count(7), 940);
        Due.due("3 all", x.end(940), true);
        Due.due("3 to 921", x.end(921), true);
        due("2 941 would be too many", x.feed(0, 0, 0, 0, 0), NONE);
        Due.due("3 to 920", x.end(920), true);
        due("2 just 940", x.feed(0, 0, 0, 0, 0), 940);
        Due.due("3 none", x.end(0), true);
        Due.due("3 none again", x.end(0), true);
        Due.due("3 one too many", x.end(1), false);
        Due.due("3 least", x.end(Integer.MIN_VALUE), false);
        Due.due("3 most", x.end(Integer.MAX_VALUE), false);
    }

    // 4
    private static void parish() {
        LeafVotes x = row();
        due("4 lines", Due.parish(x, ROW), 16);
        due("4 tape", x.count(7), 0);
        x.blow(EAST, 3);
        x.wall(6, 0);
        x.rake(0, 0);
        Due.sentence(x, "alive");
        due("4 a fault", Due.parish(x, "size 1 1;owner z;field z 1 0 1 1;"), -1 - 25);
        due("4 tape behind a fault", x.count(7), 0);
        due("4 it stays: wide", x.count(0), 7);
        due("4 it stays: year", x.now(0), 1);
        due("4 it stays: strip", x.strip(0, 1), 1);
        due("4 it stays: walls", x.now(2), 1);
        due("4 it stays: raked", x.now(3), 1);
        due("4 it stays: said", x.said(NONE), 3);
        due("4 it stays: undo", x.undo(), 2);
        due("4 again", Due.parish(x, ROW), 16);
        due("4 new year", x.now(0), 0);
        due("4 new walls", x.now(2), 0);
        due("4 new raked", x.now(3), 0);
        due("4 new lost", x.now(5), NONE);
        due("4 new strip", x.strip(0, 1), NONE);
        due("4 new changes", x.strip(0, 3), 0);
        due("4 new sack", x.owner(0, 2), NONE);
        due("4 new sacks", x.owner(0, 3), 0);
        due("4 no sentence", x.said(NONE), NONE);
        due("4 no vote", x.tree(0, 6), NONE);
        due("4 nothing to undo", x.undo(), NONE);
        due("4 an empty text", x.parish(), 0);
        due("4 is a parish of 6", x.count(0) * 10 + x.count(1), 66);
        due("4 without owners", x.count(2) + x.count(3) + x.count(4) + x.count(5) + x.count(6), 0);
        due("4 without size", Due.parish(x, "owner a;"), 1);
        due("4 is of 6 6", x.count(0) * 10 + x.count(1), 66);
    }

    // 5
    private static void fault() {
        LeafVotes x = new LeafVotes();
        Due.parish(x, "|");
        due("5 parish 1", x.fault(), 1);
        Due.roll(x, "fells 99;", 0);
        due("5 roll 2", x.fault(), 2);
        due("5 another lives", x.roll(2), -1000);
        due("5 leaves it", x.fault(), 2);
        Due.sentence(x, "of oak");
        due("5 sentence 3", x.fault(), 3);
        Due.sentence(x, "not not not not not not not not alive");
        due("5 sentence 4", x.fault(), 4);
        x.blew();
        x.raked(0, 1);
        x.blow(0, 1);
        x.undo();
        x.image(0);
        x.restore(0);
        due("5 others leave it", x.fault(), 4);
        Due.sentence(x, "alive");
        due("5 sentence 0", x.fault(), 0);
        Due.parish(x, "|");
        x.roll(0);
        due("5 roll 0", x.fault(), 0);
        Due.sentence(x, "|");
        x.parish();
        due("5 parish 0", x.fault(), 0);
    }

    // 6
    private static void tree() {
        LeafVotes x = row();
        int[][] want = {{0, 2, 0, 4, 3, 1, NONE}, {1, 0, 0, 1, 1, 0, NONE}, {2, 5, 0, 5, 9, 1, NONE}};
        for (int t = 0; t < 3; t++) {
            for (int what = 0; what < 7; what++) {
                due("6 tree " + t + " " + what, x.tree(t, what), want[t][what]);
            }
        }
        Due.noSuch("6 tree 3", () -> x.tree(3, 0));
        Due.noSuch("6 tree -1", () -> x.tree(-1, 0));
        Due.noSuch("6 what 7", () -> x.tree(0, 7));
        Due.noSuch("6 what -1", () -> x.tree(0, -1));
        x.blow(EAST, 3);
        due("6 voted for b", x.tree(0, 6), 1);
        due("6 no say", x.tree(1, 6), NONE);
        due("6 an evergreen", x.tree(2, 6), NONE);
        x.plant(0, 4, 0);
        due("6 planted has one leaf", x.tree(3, 3), 1);
        due("6 it was not there", x.tree(3, 6), NONE);
        x.fell(0);
        due("6 felled: no leaves", x.tree(0, 3), 0);
        due("6 felled: no say", x.tree(0, 5), 0);
        due("6 felled: loud all the same", x.tree(0, 4), 3);
        due("6 felled: it voted in the latest autumn", x.tree(0, 6), 1);
        x.blow(WEST, 1);
        due("6 felled: not in this one", x.tree(0, 6), NONE);
        due("6 planted grows", x.tree(3, 3), 2);
        due("6 planted votes", x.tree(3, 6), 1);
        x.blow(STILL, 1);
        x.blow(STILL, 1);
        due("6 full grown", x.tree(3, 3), 4);
        x.blow(STILL, 1);
        due("6 no more than that", x.tree(3, 3), 4);
        LeafVotes y = Due.of("size 10 10;owner o;strip p 0 0 1 1;strip q 4 4 2 2;strip r 9 9 1 1;kind k 1 1;"
            + "tree k 2 2;tree k 7 7;tree k 8 7;tree k 3 2;tree k 7 2;tree k 2 3;");
        int[] says = {3, 6, 4, 2, 2, 2};
        for (int t = 0; t < says.length; t++) {
            due("6 says of " + t, y.tree(t, 5), says[t]);
        }
    }

    // 7
    private static void cell() {
        LeafVotes x = row();
        int[] owners = {0, 0, 0, NONE, 1, 1, 1};
        int[] trees = {1, NONE, 0, NONE, NONE, 2, NONE};
        for (int c = 0; c < 7; c++) {
            due("7 owner of " + c, x.cell(c, 0, 0), owners[c]);
            due("7 strip of " + c, x.cell(c, 0, 1), c == 3 ? 0 : NONE);
            due("7 tree of " + c, x.cell(c, 0, 2), trees[c]);
        }
        x.blow(EAST, 3);
        due("7 the strip is b's", x.cell(3, 0, 0), 1);
        due("7 and a strip", x.cell(3, 0, 1), 0);
        x.wall(3, 0);
        due("7 wall", x.cell(3, 0, 3), 1);
        due("7 no wall", x.cell(4, 0, 3), 0);
        x.rake(4, 0);
        due("7 raked", x.cell(4, 0, 4), 1);
        due("7 not raked", x.cell(3, 0, 4), 0);
        x.fell(0);
        due("7 felled", x.cell(2, 0, 2), NONE);
        x.plant(1, 2, 0);
        due("7 planted anew", x.cell(2, 0, 2), 3);
        Due.noSuch("7 east of it", () -> x.cell(7, 0, 0));
        Due.noSuch("7 west of it", () -> x.cell(-1, 0, 0));
        Due.noSuch("7 south of it", () -> x.cell(0, 1, 0));
        Due.noSuch("7 north of it", () -> x.cell(0, -1, 0));
        Due.noSuch("7 what 5", () -> x.cell(0, 0, 5));
        Due.noSuch("7 what -1", () -> x.cell(0, 0, -1));
    }

    // 8
    private static void owner() {
        LeafVotes x = row();
        due("8 cells", x.owner(0, 0), 3);
        due("8 strips", x.owner(1, 1), 0);
        due("8 no autumn", x.owner(1, 2), NONE);
        due("8 no sacks", x.owner(1, 3), 0);
        x.blow(EAST, 3);
        due("8 cells with the strip", x.owner(1, 0), 4);
        due("8 cells of a", x.owner(0, 0), 3);
        due("8 strips of b", x.owner(1, 1), 1);
        due("8 sack of a", x.owner(0, 2), 2);
        due("8 sack of b, without the strip that it had not", x.owner(1, 2), 5);
        x.blow(EAST, 3);
        due("8 sack of b with the strip", x.owner(1, 2), 6);
        due("8 all sacks of a", x.owner(0, 3), 4);
        due("8 all sacks of b", x.owner(1, 3), 11);
        due("8 no such owner", x.owner(2, 0), NONE);
        due("8 owner -1", x.owner(-1, 0), NONE);
        due("8 what 4", x.owner(0, 4), NONE);
        due("8 what -1", x.owner(0, -1), NONE);
        LeafVotes y = Due.of("owner o;owner p;strip s 0 0 1 1;strip t 2 0 2 2;kind k 1 1;tree k 1 0;field o 1 0 1 1;");
        y.blow(STILL, 1);
        due("8 both strips", y.owner(0, 1), 3);
        due("8 all cells", y.owner(0, 0), 6);
        due("8 none of p", y.owner(1, 1), 0);
    }

    // 9
    private static void strip() {
        LeafVotes x = row();
        due("9 cells", x.strip(0, 0), 1);
        due("9 nobody", x.strip(0, 1), NONE);
        due("9 says", x.strip(0, 2), 5);
        due("9 changes", x.strip(0, 3), 0);
        x.blow(EAST, 3);
        due("9 b", x.strip(0, 1), 1);
        due("9 changes 1", x.strip(0, 3), 1);
        x.blow(EAST, 3);
        due("9 it stays", x.strip(0, 3), 1);
        x.blow(WEST, 1);
        due("9 a", x.strip(0, 1), 0);
        due("9 changes 2", x.strip(0, 3), 2);
        x.fell(0);
        due("9 says without it", x.strip(0, 2), 4);
        x.blow(EAST, 3);
        due("9 nobody votes: it stays", x.strip(0, 1), 0);
        due("9 no such", x.strip(1, 0), NONE);
        due("9 -1", x.strip(-1, 0), NONE);
        due("9 what 4", x.strip(0, 4), NONE);
        due("9 what -1", x.strip(0, -1), NONE);
        due("9 cells of 2 by 3", Due.of("strip s 1 1 2 3;").strip(0, 0), 6);
    }

    // 10
    private static void now() {
        LeafVotes x = row();
        due("10 year", x.now(0), 0);
        due("10 alive", x.now(1), 7);
        due("10 walls", x.now(2), 0);
        due("10 raked", x.now(3), 0);
        due("10 leaves", x.now(4), 10);
        due("10 lost: no autumn", x.now(5), NONE);
        x.wall(6, 0);
        x.wall(1, 0);
        x.rake(0, 0);
        x.rake(1, 0);
        x.rake(6, 0);
        x.fell(1);
        x.plant(0, 4, 0);
        due("10 alive then", x.now(1), 13);
        due("10 walls then", x.now(2), 2);
        due("10 raked then", x.now(3), 3);
        due("10 leaves then", x.now(4), 10);
        x.blow(NORTH, 4);
        due("10 year then", x.now(0), 1);
        due("10 raked no more", x.now(3), 0);
        due("10 leaves a year later", x.now(4), 11);
        due("10 lost", x.now(5), 7);
        x.blow(STILL, 4);
        due("10 none lost", x.now(5), 0);
        due("10 what 6", x.now(6), NONE);
        due("10 what -1", x.now(-1), NONE);
    }

    // 11
    private static void blow() {
        LeafVotes x = row();
        due("11 way 5", x.blow(5, 1), NONE);
        due("11 way -1", x.blow(-1, 1), NONE);
        due("11 force 0", x.blow(EAST, 0), NONE);
        due("11 force 5", x.blow(EAST, 5), NONE);
        due("11 nothing was", x.now(0), 0);
        x.rake(2, 0);
        due("11 done", x.blow(STILL, 4), 0);
        due("11 raked leaves count for nobody", x.owner(0, 2), 1);
        due("11 and for no vote", x.tree(0, 6), NONE);
        due("11 the strip stays", x.strip(0, 1), NONE);
        for (int year = 1; year < 199; year++) {
            due("11 year " + year, x.blow(SOUTH, 2), 0);
        }
        due("11 199 years", x.now(0), 199);
        due("11 no more", x.blow(STILL, 1), 1);
        due("11 still 199", x.now(0), 199);
        due("11 no such way all the same", x.blow(9, 1), NONE);
        // Strips go by what was ahead: t would go to o by s, if s were o's first.
        LeafVotes y = Due.of("size 5 1;owner o;field o 0 0 1 1;strip s 1 0 1 1;strip t 4 0 1 1;kind k 3 1;tree k 0 0;kind j 1 1;"
            + "tree j 2 0;wall 3 0;");
        y.blow(EAST, 1);
        due("11 s is o's", y.strip(0, 1), 0);
        due("11 t is not", y.strip(1, 1), NONE);
        LeafVotes z = Due.of("size 5 1;owner o;field o 0 0 1 1;strip s 2 0 1 1;strip t 4 0 1 1;kind k 3 1;tree k 0 0;kind j 1 1;"
            + "tree j 2 0;");
        z.blow(STILL, 1);
        due("11 s goes to o", z.strip(0, 1), 0);
        due("11 t does not yet", z.strip(1, 1), NONE);
        z.blow(STILL, 1);
        due("11 t goes then", z.strip(1, 1), 0);
        due("11 tree 1 votes in s first, by leaves in s: for nobody", z.tree(1, 6), NONE);
    }

    // 12
    private static void plant() {
        LeafVotes x = row();
        due("12 no such kind", x.plant(3, 1, 0), NONE);
        due("12 kind -1", x.plant(-1, 1, 0), NONE);
        due("12 no such x", x.plant(0, 7, 0), NONE);
        due("12 x -1", x.plant(0, -1, 0), NONE);
        due("12 no such y", x.plant(0, 1, 1), NONE);
        due("12 y -1", x.plant(0, 1, -1), NONE);
        due("12 a tree is there", x.plant(0, 2, 0), 1);
        x.wall(6, 0);
        due("12 a wall is there", x.plant(0, 6, 0), 1);
        due("12 done", x.plant(2, 3, 0), 0);
        due("12 its kind", x.tree(3, 0), 2);
        due("12 its x", x.tree(3, 1), 3);
        due("12 it is there", x.plant(0, 3, 0), 1);
        x.fell(3);
        due("12 where a felled one was", x.plant(1, 3, 0), 0);
        due("12 five trees", x.count(5), 5);
        for (int n = 5; n < 14; n++) {
            due("12 " + n, x.plant(1, 1, 0), 0);
            x.fell(n);
        }
        due("12 there are 14, felled ones too", x.plant(1, 1, 0), 2);
        due("12 a tree is there first", x.plant(1, 2, 0), 1);
        due("12 still 14", x.count(5), 14);
    }

    // 13
    private static void fell() {
        LeafVotes x = row();
        due("13 no such", x.fell(3), NONE);
        due("13 -1", x.fell(-1), NONE);
        due("13 done", x.fell(1), 0);
        due("13 it is felled", x.fell(1), 1);
        due("13 alive", x.now(1), 5);
        due("13 it is one of the trees", x.count(5), 3);
        due("13 its leaves are none", x.leaves(0, 0, STILL, 1), 0);
    }

    // 14
    private static void wall() {
        LeafVotes x = row();
        due("14 no such x", x.wall(7, 0), NONE);
        due("14 x -1", x.wall(-1, 0), NONE);
        due("14 no such y", x.wall(0, 1), NONE);
        due("14 y -1", x.wall(0, -1), NONE);
        due("14 a tree", x.wall(2, 0), 1);
        due("14 done", x.wall(3, 0), 0);
        due("14 a wall", x.wall(3, 0), 1);
        due("14 leaves stay ahead of it", x.leaves(2, 0, EAST, 3), 4);
        x.fell(0);
        due("14 where a felled tree was", x.wall(2, 0), 0);
        LeafVotes y = Due.of("size 4 4;kind k 1 1;tree k 3 3;");
        for (int n = 0; n < 10; n++) {
            due("14 wall " + n, y.wall(n % 4, n / 4), 0);
        }
        due("14 there are 10", y.wall(2, 3), 2);
        due("14 a tree first", y.wall(3, 3), 1);
        due("14 a wall first", y.wall(0, 0), 1);
        due("14 ten", y.now(2), 10);
    }

    // 15
    private static void rake() {
        LeafVotes x = row();
        due("15 no such x", x.rake(7, 0), NONE);
        due("15 x -1", x.rake(-1, 0), NONE);
        due("15 no such y", x.rake(0, 1), NONE);
        due("15 y -1", x.rake(0, -1), NONE);
        due("15 done, tree or not", x.rake(2, 0), 0);
        due("15 raked", x.rake(2, 0), 1);
        x.wall(6, 0);
        due("15 a wall", x.rake(6, 0), 0);
        due("15 two", x.now(3), 2);
        due("15 sack without it", x.sack(0, STILL, 1), 1);
        x.blow(STILL, 1);
        due("15 again", x.rake(2, 0), 0);
    }

    // 16
    private static void undo() {
        LeafVotes x = row();
        due("16 none", x.undo(), NONE);
        x.blow(EAST, 3);
        x.plant(0, 4, 0);
        x.fell(0);
        x.wall(6, 0);
        x.rake(4, 0);
        x.blow(WEST, 1);
        x.fell(0);
        x.rake(9, 9);
        x.wall(6, 0);
        x.drawn(0, 1);
        due("16 blow", x.undo(), 5);
        due("16 year", x.now(0), 1);
        due("16 raked", x.cell(4, 0, 4), 1);
        due("16 sack", x.owner(1, 2), 5);
        due("16 sacks", x.owner(1, 3), 5);
        due("16 lost", x.now(5), 2);
        due("16 voted", x.tree(0, 6), 1);
        due("16 grown", x.tree(3, 3), 1);
        due("16 rake", x.undo(), 4);
        due("16 not raked", x.cell(4, 0, 4), 0);
        due("16 wall", x.undo(), 3);
        due("16 no wall", x.cell(6, 0, 3), 0);
        due("16 walls", x.now(2), 0);
        due("16 fell", x.undo(), 2);
        due("16 alive", x.tree(0, 3), 4);
        due("16 plant", x.undo(), 1);
        due("16 trees", x.count(5), 3);
        due("16 cell", x.cell(4, 0, 2), NONE);
        due("16 first blow", x.undo(), 0);
        due("16 year 0", x.now(0), 0);
        due("16 no sack", x.owner(1, 2), NONE);
        due("16 no lost", x.now(5), NONE);
        due("16 nobody's", x.strip(0, 1), NONE);
        due("16 no changes", x.strip(0, 3), 0);
        due("16 nothing more", x.undo(), NONE);
        for (int n = 0; n < 11; n++) {
            x.blow(STILL, 1);
        }
        for (int more = 7; more >= 0; more--) {
            due("16 eight are kept", x.undo(), more);
        }
        due("16 not nine", x.undo(), NONE);
        due("16 three remain", x.now(0), 3);
        x.rake(0, 0);
        due("16 goes on", x.undo(), 0);
    }

    private static void undoAmongTexts() {
        LeafVotes x = row();
        x.drawn(3, 5);
        Due.roll(x, "rakes 0 0;walls 1 0;rakes 0 0;", 1);
        Due.roll(x, "rakes 4 0;walls 4 0;", 0);
        Due.sentence(x, "alive");
        due("16 a roll that was lived", x.undo(), 1);
        due("16 its rake", x.now(3), 0);
        due("16 its wall", x.now(2), 0);
        due("16 the sentence stays", x.said(NONE), 3);
        due("16 what was rolled stays", x.rolled(1), 2);
        due("16 drawn as one", x.undo(), 0);
        due("16 year", x.now(0), 0);
    }

    // 17
    private static void leaves() {
        LeafVotes x = row();
        int[] east = {1, 0, 1, 1, 1, 3, 1};
        int[] west = {1, 2, 2, 0, 2, 3, 0};
        int[] north = {1, 0, 1, 0, 0, 1, 0};
        int[] still = {1, 0, 4, 0, 0, 5, 0};
        for (int c = 0; c < 7; c++) {
            due("17 east in " + c, x.leaves(c, 0, EAST, 3), east[c]);
            due("17 west in " + c, x.leaves(c, 0, WEST, 1), west[c]);
            due("17 north in " + c, x.leaves(c, 0, NORTH, 4), north[c]);
            due("17 south in " + c, x.leaves(c, 0, SOUTH, 4), north[c]);
            due("17 still in " + c, x.leaves(c, 0, STILL, 3), still[c]);
        }
        x.rake(5, 0);
        due("17 raked or not", x.leaves(5, 0, EAST, 3), 3);
        due("17 x 7", x.leaves(7, 0, EAST, 3), NONE);
        due("17 x -1", x.leaves(-1, 0, EAST, 3), NONE);
        due("17 y 1", x.leaves(0, 1, EAST, 3), NONE);
        due("17 y -1", x.leaves(0, -1, EAST, 3), NONE);
        due("17 way 5", x.leaves(0, 0, 5, 3), NONE);
        due("17 way -1", x.leaves(0, 0, -1, 3), NONE);
        due("17 force 0", x.leaves(0, 0, EAST, 0), NONE);
        due("17 force 5", x.leaves(0, 0, EAST, 5), NONE);
        LeafVotes y = Due.of("size 5 5;kind k 10 1;tree k 2 2;wall 2 0;wall 4 2;");
        due("17 north ahead of a wall", y.leaves(2, 1, NORTH, 4), 8);
        due("17 at the tree", y.leaves(2, 2, NORTH, 4), 2);
        due("17 none in the wall", y.leaves(2, 0, NORTH, 4), 0);
        due("17 east ahead of a wall", y.leaves(3, 2, EAST, 2), 6);
        due("17 south 1", y.leaves(2, 3, SOUTH, 4), 2);
        due("17 south 2", y.leaves(2, 4, SOUTH, 4), 2);
        due("17 west 2", y.leaves(0, 2, WEST, 2), 3);
        due("17 west 0", y.leaves(2, 2, WEST, 2), 4);
    }

    // 18
    private static void votes() {
        LeafVotes x = row();
        due("18 east 1", x.votes(0, 0, EAST, 1), 0);
        due("18 east 2", x.votes(0, 0, EAST, 2), 0);
        due("18 east 3", x.votes(0, 0, EAST, 3), 1);
        due("18 west 4", x.votes(0, 0, WEST, 4), 0);
        due("18 no say", x.votes(1, 0, EAST, 3), NONE);
        due("18 an evergreen", x.votes(2, 0, EAST, 3), NONE);
        due("18 no such tree", x.votes(3, 0, EAST, 3), -2);
        due("18 tree -1", x.votes(-1, 0, EAST, 3), -2);
        due("18 no such strip", x.votes(0, 1, EAST, 3), -2);
        due("18 strip -1", x.votes(0, -1, EAST, 3), -2);
        due("18 way 5", x.votes(0, 0, 5, 3), -2);
        due("18 force 0", x.votes(0, 0, EAST, 0), -2);
        due("18 force 5", x.votes(0, 0, EAST, 5), -2);
        x.rake(5, 0);
        due("18 two are alike", x.votes(0, 0, EAST, 3), NONE);
        x.rake(4, 0);
        due("18 by what counts", x.votes(0, 0, EAST, 3), 0);
        x.rake(2, 0);
        due("18 none counts", x.votes(0, 0, EAST, 3), NONE);
        x.fell(0);
        due("18 felled", x.votes(0, 0, WEST, 1), NONE);
    }

    /** Leaves in a strip count for its holder, but not for the vote in that very strip. */
    private static void votesInSeveralStrips() {
        LeafVotes x = Due.of("size 5 1;owner a;owner b;field a 0 0 1 1;field b 4 0 1 1;strip p 1 0 1 1;strip q 3 0 1 1;"
            + "kind k 4 1;tree k 2 0;kind j 3 9;tree j 0 0;");
        due("18 nobody's leaves", x.votes(0, 0, WEST, 1), NONE);
        x.blow(STILL, 1);
        due("18 p is a's", x.strip(0, 1), 0);
        due("18 q is nobody's", x.strip(1, 1), NONE);
        due("18 in p by leaves in p", x.votes(0, 0, WEST, 1), NONE);
        due("18 in q by leaves in p", x.votes(0, 1, WEST, 1), 0);
        x.blow(WEST, 1);
        due("18 q is a's", x.strip(1, 1), 0);
        due("18 voted in the first one", x.tree(0, 6), NONE);
        due("18 in p by leaves in q", x.votes(0, 0, EAST, 1), 0);
        due("18 in p by leaves in q and with b", x.votes(0, 0, EAST, 2), NONE);
        due("18 in q with b alone", x.votes(0, 1, EAST, 2), 1);
    }

    // 19, 20
    private static void voicesAndGoes() {
        LeafVotes x = row();
        due("19 b east 3", x.voices(1, 0, EAST, 3), 3);
        due("19 a east 3", x.voices(0, 0, EAST, 3), 0);
        due("19 a west 1", x.voices(0, 0, WEST, 1), 3);
        due("20 east 3", x.goes(0, EAST, 3), 1);
        due("20 west 1", x.goes(0, WEST, 1), 0);
        x.plant(0, 4, 0);
        due("19 more for b", x.voices(1, 0, EAST, 3), 6);
        due("19 b west 1", x.voices(1, 0, WEST, 1), 3);
        due("20 two are alike: nobody's", x.goes(0, WEST, 1), NONE);
        x.blow(EAST, 3);
        due("20 two are alike: it stays b's", x.goes(0, STILL, 1), 1);
        x.fell(3);
        due("20 a has most", x.goes(0, STILL, 1), 0);
        x.fell(0);
        due("20 none: it stays b's", x.goes(0, WEST, 1), 1);
        due("19 none", x.voices(0, 0, WEST, 1), 0);
        due("19 no such owner", x.voices(2, 0, EAST, 3), NONE);
        due("19 owner -1", x.voices(-1, 0, EAST, 3), NONE);
        due("19 no such strip", x.voices(0, 1, EAST, 3), NONE);
        due("19 way 5", x.voices(0, 0, 5, 3), NONE);
        due("19 force 5", x.voices(0, 0, EAST, 5), NONE);
        due("20 no such strip", x.goes(1, EAST, 3), -2);
        due("20 strip -1", x.goes(-1, EAST, 3), -2);
        due("20 way -1", x.goes(0, -1, 3), -2);
        due("20 force 0", x.goes(0, EAST, 0), -2);
        LeafVotes y = Due.of("size 6 1;owner a;owner b;owner c;field a 0 0 1 1;field b 1 0 2 1;field c 4 0 2 1;strip s 3 0 1 1;"
            + "kind k 1 2;kind j 1 3;tree k 1 0;tree j 2 0;tree k 4 0;tree j 5 0;");
        due("19 b has 5", y.voices(1, 0, STILL, 1), 5);
        due("19 c has 5", y.voices(2, 0, STILL, 1), 5);
        due("20 alike", y.goes(0, STILL, 1), NONE);
        y.fell(2);
        due("20 loud, not how many trees", y.goes(0, STILL, 1), 1);
        y.fell(0);
        due("20 alike again", y.goes(0, STILL, 1), NONE);
    }

    // 21
    private static void sack() {
        LeafVotes x = row();
        int[][] want = {{STILL, 1, 5, 5}, {NORTH, 1, 3, 3}, {NORTH, 2, 3, 2}, {SOUTH, 3, 2, 2}, {SOUTH, 4, 2, 1},
            {EAST, 1, 3, 5}, {EAST, 2, 3, 5}, {EAST, 3, 2, 5}, {EAST, 4, 2, 4}, {WEST, 1, 5, 5}, {WEST, 2, 5, 4},
            {WEST, 3, 5, 3}, {WEST, 4, 6, 2}};
        for (int[] w : want) {
            due("21 a by " + w[0] + " " + w[1], x.sack(0, w[0], w[1]), w[2]);
            due("21 b by " + w[0] + " " + w[1], x.sack(1, w[0], w[1]), w[3]);
        }
        x.blow(EAST, 3);
        due("21 with the strip", x.sack(1, EAST, 3), 6);
        x.rake(3, 0);
        due("21 raked", x.sack(1, EAST, 3), 5);
        due("21 no such owner", x.sack(2, EAST, 3), NONE);
        due("21 owner -1", x.sack(-1, EAST, 3), NONE);
        due("21 way 5", x.sack(0, 5, 3), NONE);
        due("21 force 0", x.sack(0, EAST, 0), NONE);
    }

    // 22
    private static void likely() {
        LeafVotes x = row();
        due("22 a above", x.likely(0, 0, 0), 4);
        due("22 a below", x.likely(0, 0, 1), 5);
        due("22 b above", x.likely(1, 0, 0), 1);
        due("22 b below", x.likely(1, 0, 1), 5);
        x.wall(3, 0);
        due("22 sure above", x.likely(0, 0, 0), 1);
        due("22 sure below", x.likely(0, 0, 1), 1);
        due("22 never above", x.likely(1, 0, 0), 0);
        due("22 never below", x.likely(1, 0, 1), 1);
        Due.noSuch("22 owner 2", () -> x.likely(2, 0, 0));
        Due.noSuch("22 owner -1", () -> x.likely(-1, 0, 0));
        Due.noSuch("22 strip 1", () -> x.likely(0, 1, 0));
        Due.noSuch("22 strip -1", () -> x.likely(0, -1, 0));
        Due.noSuch("22 what 2", () -> x.likely(0, 0, 2));
        Due.noSuch("22 what -1", () -> x.likely(0, 0, -1));
        LeafVotes y = Due.of("owner a;strip s 0 0 1 1;");
        Due.noSuch("22 no winds", () -> y.likely(0, 0, 0));
    }

    // 23
    private static void decides() {
        LeafVotes x = row();
        due("23 alone", x.decides(0, EAST, 3), 1);
        x.plant(0, 4, 0);
        due("23 two for b", x.decides(0, EAST, 3), 0);
        due("23 two alike: either", x.decides(0, WEST, 1), 9);
        x.blow(EAST, 3);
        due("23 b would keep it without the other", x.decides(0, STILL, 1), 8);
        due("23 no such strip", x.decides(1, EAST, 3), NONE);
        due("23 strip -1", x.decides(-1, EAST, 3), NONE);
        due("23 way 5", x.decides(0, 5, 3), NONE);
        due("23 force 5", x.decides(0, EAST, 5), NONE);
        x.fell(0);
        x.fell(3);
        due("23 none votes", x.decides(0, EAST, 3), 0);
    }

    private static void bytes(LeafVotes x, int... sacks) {
        byte[] bytes = new byte[sacks.length];
        for (int i = 0; i < sacks.length; i++) {
            bytes[i] = (byte) sacks[i];
        }
        Due.tape(x, bytes);
    }

    private static void blew(LeafVotes x, int a, int b, int winds, int first) {
        bytes(x, a, b);
        due("24 by " + a + " " + b, x.blew(), winds);
        due("24 the tape", x.count(7), 0);
        due("25 by " + a + " " + b, x.wind(), first);
    }

    // 24, 25
    private static void blew() {
        LeafVotes x = row();
        due("25 ahead of any", x.wind(), NONE);
        bytes(x, 9, 9);
        due("24 none", x.blew(), 0);
        due("25 ahead of one that found any", x.wind(), NONE);
        blew(x, 5, 5, 2, 1);
        blew(x, 3, 5, 2, 21);
        blew(x, 3, 3, 2, 11);
        blew(x, 2, 2, 2, 13);
        blew(x, 2, 1, 2, 14);
        blew(x, 6, 2, 1, 44);
        blew(x, 6, 255, 0, 44);
        bytes(x, 5);
        due("24 a byte too few", x.blew(), NONE);
        due("24 the tape", x.count(7), 0);
        bytes(x, 5, 5, 0);
        due("24 a byte too many", x.blew(), NONE);
        due("24 no bytes", x.blew(), NONE);
        due("25 it stays", x.wind(), 44);
        x.rake(5, 0);
        blew(x, 5, 0, 1, 1);
        LeafVotes y = new LeafVotes();
        due("24 no owners", y.blew(), NONE);
        LeafVotes z = Due.of("owner a;");
        bytes(z, 0);
        due("24 all 17", z.blew(), 17);
        due("25 still", z.wind(), 1);
        x.parish();
        due("25 it stays with a new parish", x.wind(), 1);
    }

    private static void raked(LeafVotes x, int a, int b, int cells, int first) {
        bytes(x, a, b);
        due("26 by " + a + " " + b, x.raked(EAST, 3), cells);
        due("26 the tape", x.count(7), 0);
        due("27 by " + a + " " + b, x.where(), first);
    }

    // 26, 27
    private static void raked() {
        LeafVotes x = row();
        raked(x, 2, 5, 0, NONE);
        raked(x, 9, 5, 0, NONE);
        raked(x, 1, 5, 2, 0);
        raked(x, 2, 2, 1, 5);
        raked(x, 2, 4, 2, 4);
        raked(x, 1, 4, 0, 4);
        raked(x, 2, 5, 0, 4);
        bytes(x, 1, 5);
        due("26 way 5", x.raked(5, 3), NONE);
        due("26 the tape", x.count(7), 0);
        bytes(x, 1, 5);
        due("26 force 0", x.raked(EAST, 0), NONE);
        bytes(x, 1, 5);
        due("26 force 5", x.raked(EAST, 5), NONE);
        bytes(x, 1, 5, 5);
        due("26 too many", x.raked(EAST, 3), NONE);
        bytes(x, 1);
        due("26 too few", x.raked(EAST, 3), NONE);
        due("26 none", x.raked(EAST, 3), NONE);
        due("26 no owners", new LeafVotes().raked(EAST, 3), NONE);
        due("27 it stays", x.where(), 4);
        x.rake(0, 0);
        raked(x, 0, 5, 1, 2);
        raked(x, 1, 5, 0, 2);
        due("26 nothing is raked by it", x.now(3), 1);
        LeafVotes y = Due.of("size 3 3;owner a;field a 0 0 3 3;kind k 4 1;tree k 1 1;tree k 2 2;");
        bytes(y, 4);
        due("26 one of three", y.raked(SOUTH, 1), 3);
        due("27 the first", y.where(), 11);
        y.rake(1, 1);
        bytes(y, 2);
        due("26 one of two, besides", y.raked(SOUTH, 1), 2);
        due("27 ten times y and x", y.where(), 21);
    }

    // 28, 31
    private static void bestTree() {
        LeafVotes x = row();
        due("31 ahead of any", x.at(), NONE);
        due("28 for b", x.bestTree(1, 0, 0, 0), 2);
        due("31 for b", x.at(), 3);
        due("28 for a", x.bestTree(0, 0, 0, 0), 8);
        due("31 for a", x.at(), 1);
        due("28 for b in 3 years", x.bestTree(1, 0, 0, 3), 2);
        due("31 for b in 3 years", x.at(), 3);
        due("28 an evergreen for a", x.bestTree(0, 0, 2, 20), 8);
        due("31 the first cell", x.at(), 1);
        x.blow(EAST, 3);
        due("28 alike ones stay b's", x.bestTree(1, 0, 0, 0), 10);
        due("31 then", x.at(), 4);
        due("28 a quiet one does not help", x.bestTree(1, 0, 1, 20), 2);
        due("31 the first, by a cell that is as good", x.at(), 1);
        due("28 nothing was planted", x.count(5), 3);
        x.rake(4, 0);
        due("28 raked cells as now", x.bestTree(1, 0, 0, 0), 2);
        due("28 owner 2", x.bestTree(2, 0, 0, 0), NONE);
        due("28 owner -1", x.bestTree(-1, 0, 0, 0), NONE);
        due("28 strip 1", x.bestTree(0, 1, 0, 0), NONE);
        due("28 kind 3", x.bestTree(0, 0, 3, 0), NONE);
        due("28 kind -1", x.bestTree(0, 0, -1, 0), NONE);
        due("28 years -1", x.bestTree(0, 0, 0, -1), NONE);
        due("28 years 21", x.bestTree(0, 0, 0, 21), NONE);
        due("31 it stays", x.at(), 3);
        for (int n = 3; n < 14; n++) {
            x.plant(0, 1, 0);
            x.fell(n);
        }
        due("28 14 trees", x.bestTree(0, 0, 0, 0), NONE);
        due("28 no winds", Due.of("owner a;strip s 0 0 1 1;kind k 1 1;").bestTree(0, 0, 0, 0), NONE);
        LeafVotes y = Due.of("size 1 2;owner a;strip s 0 0 1 1;kind k 1 1;tree k 0 0;wall 0 1;wind still 1 7;");
        due("28 no cell", y.bestTree(0, 0, 0, 0), NONE);
        LeafVotes z = Due.of("size 3 9;owner a;field a 0 6 3 3;strip s 1 3 1 1;kind k 3 1;wind south 2 3;wind south 1 4;");
        due("28 by years: none", z.bestTree(0, 0, 0, 0), 0);
        due("31 the first of all", z.at(), 0);
        due("28 by years: 1", z.bestTree(0, 0, 0, 1), 7);
        due("31 near enough", z.at(), 50);
        due("28 by years: 2", z.bestTree(0, 0, 0, 2), 7);
        due("31 as near", z.at(), 50);
    }

    // 29, 31
    private static void bestWall() {
        LeafVotes x = row();
        due("29 for b", x.bestWall(1, 0), 2);
        due("31 for b", x.at(), 1);
        due("29 for a", x.bestWall(0, 0), 10);
        due("31 for a", x.at(), 3);
        due("29 nothing was walled", x.now(2), 0);
        due("29 and all is as it was", x.leaves(3, 0, EAST, 3), 1);
        due("29 owner 2", x.bestWall(2, 0), NONE);
        due("29 owner -1", x.bestWall(-1, 0), NONE);
        due("29 strip 1", x.bestWall(0, 1), NONE);
        due("29 strip -1", x.bestWall(0, -1), NONE);
        due("31 it stays", x.at(), 3);
        due("29 no winds", Due.of("owner a;strip s 0 0 1 1;").bestWall(0, 0), NONE);
        due("29 no cell", Due.of("size 1 1;owner a;strip s 0 0 1 1;wall 0 0;wind east 1 1;").bestWall(0, 0), NONE);
        LeafVotes y = Due.of("size 4 4;owner a;strip s 0 0 1 1;wind east 1 1;");
        due("29 any cell", y.bestWall(0, 0), 0);
        due("31 the first", y.at(), 0);
        for (int n = 0; n < 10; n++) {
            y.wall(n % 4, n / 4);
        }
        due("29 10 walls", y.bestWall(0, 0), NONE);
    }

    // 30, 31
    private static void duel() {
        LeafVotes x = row();
        due("30 a and b", x.duel(0, 1, 0, 0), 8);
        due("31 a and b", x.at(), 1);
        due("30 b and a", x.duel(1, 0, 0, 0), 2);
        due("31 b and a", x.at(), 1);
        due("30 nothing was planted", x.count(5), 3);
        due("30 alike", x.duel(0, 0, 0, 0), NONE);
        due("30 owner 2", x.duel(2, 0, 0, 0), NONE);
        due("30 owner -1", x.duel(0, -1, 0, 0), NONE);
        due("30 strip 1", x.duel(0, 1, 1, 0), NONE);
        due("30 kind 3", x.duel(0, 1, 0, 3), NONE);
        due("30 kind -1", x.duel(0, 1, 0, -1), NONE);
        due("31 it stays", x.at(), 1);
        for (int n = 3; n < 12; n++) {
            x.plant(0, 1, 0);
            x.fell(n);
        }
        due("30 two more may be", x.duel(0, 1, 0, 0), 8);
        x.plant(0, 1, 0);
        x.fell(12);
        due("30 one more may be", x.duel(0, 1, 0, 0), NONE);
        due("28 one more may be planted", x.bestTree(0, 0, 0, 0), 8);
        due("30 no winds", Due.of("owner a;owner b;strip s 0 0 1 1;kind k 1 1;").duel(0, 1, 0, 0), NONE);
        String narrow = "owner a;owner b;strip s 0 0 1 1;kind k 1 1;wind still 1 7;";
        due("30 one cell", Due.of("size 1 1;" + narrow).duel(0, 1, 0, 0), NONE);
        due("30 two cells", Due.of("size 2 1;" + narrow).duel(0, 1, 0, 0), 0);
        LeafVotes y = Due.of("size 3 1;owner a;owner b;field a 0 0 1 1;field b 2 0 1 1;strip s 1 0 1 1;kind k 1 1;wind still 1 5;");
        due("30 b can't win and takes the first of like ones", y.duel(0, 1, 0, 0), 5);
        due("31 a's own", y.at(), 0);
        due("30 a takes the first, too: his own", y.duel(1, 0, 0, 0), 0);
        due("31 all alike for b", y.at(), 0);
        LeafVotes z = Due.of("size 3 1;owner a;owner b;field a 0 0 1 1;field b 2 0 1 1;strip s 1 0 1 1;kind k 1 1;wind still 1 5;"
            + "tree k 0 0;");
        due("30 b is left the cell by which it is nobody's", z.duel(0, 1, 0, 0), 0);
        due("31 all alike", z.at(), 1);
        LeafVotes w = Due.of("size 4 1;owner a;owner b;field a 0 0 2 1;field b 3 0 1 1;strip s 2 0 1 1;kind k 1 1;wind still 1 5;"
            + "tree k 0 0;");
        due("30 a is ahead for good", w.duel(0, 1, 0, 0), 5);
        due("31 in his own", w.at(), 1);
        due("30 b can't win", w.duel(1, 0, 0, 0), 0);
        due("31 the first that is as good", w.at(), 1);
    }

    // 32
    private static void drawn() {
        LeafVotes x = row();
        due("32 n 0", x.drawn(0, 1), NONE);
        due("32 n 61", x.drawn(61, 1), NONE);
        due("32 n -1", x.drawn(-1, 1), NONE);
        due("32 no winds", new LeafVotes().drawn(1, 1), NONE);
        due("32 seed 11", x.drawn(1, 11), 1);
        due("32 raked 4, west 1: a", x.owner(0, 2), 5);
        due("32 raked 4, west 1: b", x.owner(1, 2), 3);
        due("32 nothing is raked then", x.now(3), 0);
        due("32 undone", x.undo(), 0);
        due("32 seed 0", x.drawn(1, 0), 1);
        due("32 raked 1, still: b", x.owner(1, 2), 5);
        x.undo();
        due("32 seed 1", x.drawn(2, 1), 2);
        due("32 west 1, then raked 2, still: a", x.owner(0, 2), 1);
        due("32 all of a", x.owner(0, 3), 6);
        due("32 all of b", x.owner(1, 3), 10);
        due("32 it stays a's", x.strip(0, 1), 0);
        due("32 changes", x.strip(0, 3), 1);
        due("32 voted for nobody", x.tree(0, 6), NONE);
        x.undo();
        due("32 seed 3", x.drawn(2, 3), 2);
        due("32 east 3 twice: b", x.owner(1, 3), 11);
        due("32 b's", x.strip(0, 1), 1);
        x.undo();
        due("32 seed -5", x.drawn(5, -5), 5);
        due("32 the last one east 3", x.strip(0, 1), 1);
        due("32 raked 0 ahead of it, and the strip was a's", x.owner(0, 2), 2);
        x.undo();
        due("32 60", x.drawn(60, 7), 60);
        due("32 120", x.drawn(60, 7), 60);
        due("32 180", x.drawn(60, 7), 60);
        due("32 as many as may be", x.drawn(60, 0), 19);
        due("32 199", x.now(0), 199);
        due("32 nothing raked", x.now(3), 0);
        due("32 no more", x.drawn(60, 0), 0);
        due("32 nothing raked by none", x.now(3), 0);
        due("32 none can't be undone", x.undo(), 3);
        due("32 180 again", x.now(0), 180);
    }

    // 33
    private static void odds() {
        LeafVotes x = row();
        due("33 a by 9", x.odds(0, 0, 9, 0), 9);
        due("33 a by 12", x.odds(0, 0, 12, 0), 10);
        due("33 b by 12", x.odds(1, 0, 12, 0), 2);
        due("33 b from 9", x.odds(1, 0, 3, 9), 2);
        due("33 b by -5", x.odds(1, 0, 1, -5), 1);
        due("33 all stays", x.now(0) + x.now(3) + x.undo(), -1);
        due("33 owner 2", x.odds(2, 0, 1, 1), NONE);
        due("33 owner -1", x.odds(-1, 0, 1, 1), NONE);
        due("33 strip 1", x.odds(0, 1, 1, 1), NONE);
        due("33 n 0", x.odds(0, 0, 0, 1), NONE);
        due("33 n 31", x.odds(0, 0, 31, 1), NONE);
        due("33 no winds", Due.of("owner a;strip s 0 0 1 1;").odds(0, 0, 1, 1), NONE);
        x.wall(3, 0);
        due("33 n 30", x.odds(0, 0, 30, Integer.MAX_VALUE - 3), 30);
        x.undo();
        for (int n = 0; n < 197; n++) {
            x.blow(EAST, 3);
        }
        // Seeds 2 and 5 and 8 begin with still or west twice, 3 with east twice.
        due("33 two autumns are left: 2", x.odds(0, 0, 1, 2), 1);
        due("33 two autumns are left: 3", x.odds(0, 0, 1, 3), 0);
        due("33 two autumns are left: 3, b", x.odds(1, 0, 1, 3), 1);
        x.blow(EAST, 3);
        x.blow(EAST, 3);
        due("33 none is left", x.odds(1, 0, 30, 0), 30);
    }

    // 34
    private static void roll() {
        LeafVotes x = row();
        due("34 an empty one", x.roll(0), NONE);
        due("34 judged", Due.roll(x, "blows east 3; rakes 3 0;\nplants k 4 0;fells 3;walls 4 0;blows still 1;", 0), NONE);
        due("34 the tape", x.count(7), 0);
        due("34 all stays", x.now(0) + x.now(2) + x.now(3) + x.count(5), 3);
        due("34 the strip stays", x.strip(0, 1), NONE);
        due("34 nothing to undo", x.undo(), NONE);
        due("34 lived", Due.roll(x, "blows east 3; rakes 3 0;\nplants k 4 0;fells 3;walls 4 0;blows still 1;", 1), NONE);
        due("34 year", x.now(0), 2);
        due("34 wall", x.cell(4, 0, 3), 1);
        due("34 felled", x.now(1), 7);
        due("34 changes", x.strip(0, 3), 2);
        due("34 one to undo", x.undo(), 0);
        due("34 undone", x.now(0) + x.now(2) + x.now(3) + x.count(5), 3);
        due("34 wrong", Due.roll(x, "rakes 1 0;rakes 1 0;rakes 2 0;", 1), 1);
        due("34 as far as that", x.now(3), 1);
        due("34 the third was not", x.cell(2, 0, 4), 0);
        due("34 wrong at once", Due.roll(x, "rakes 1 0;", 0), 0);
        due("34 wrong at once, lived", Due.roll(x, "rakes 1 0;", 1), 0);
        due("34 it was lived all the same", x.undo(), 1);
        Due.tape(x, "rakes 6 0;");
        due("34 lives 2", x.roll(2), -1000);
        due("34 lives -1", x.roll(-1), -1000);
        due("34 the tape stays", x.count(7), 10);
        due("34 lives 1", x.roll(1), NONE);
        due("34 a fault", Due.roll(x, "rakes 5 0;rakes 4 1;", 1), -2 - 18);
        due("34 nothing of it was lived", x.cell(5, 0, 4), 0);
        due("34 an unknown tree", Due.roll(x, "fells 3;", 0), 0);
        due("34 a tree that was planted in it", Due.roll(x, "plants q 1 0;fells 3;fells 4;", 0), 2);
    }

    private static void rolledWhy(LeafVotes x, String text, int why, int right) {
        due("34 of " + text, Due.roll(x, text, 0), why == 0 ? NONE : right);
        due("35 why of " + text, x.rolled(0), why);
        due("35 lines of " + text, x.rolled(1), right);
    }

    // 35
    private static void rolled() {
        LeafVotes x = row();
        for (int what = 0; what < 4; what++) {
            due("35 ahead of any " + what, x.rolled(what), NONE);
        }
        Due.roll(x, "fells 99;", 0);
        due("35 a fault does not count", x.rolled(0), NONE);
        x.roll(3);
        due("35 nor does -1000", x.rolled(0), NONE);
        rolledWhy(x, "", 0, 0);
        rolledWhy(x, "rakes 0 0;rakes 1 0;", 0, 2);
        rolledWhy(x, "plants k 2 0;", 11, 0);
        rolledWhy(x, "walls 1 0;plants k 1 0;", 11, 1);
        rolledWhy(x, "fells 0;fells 0;fells 1;", 21, 1);
        rolledWhy(x, "fells 0;plants k 2 0;fells 3;fells 4;", 29, 3);
        rolledWhy(x, "walls 2 0;", 31, 0);
        rolledWhy(x, "rakes 2 0;walls 1 0;rakes 2 0;", 41, 2);
        String many = "";
        for (int n = 3; n < 14; n++) {
            many += "plants k 1 0;fells " + n + ";";
        }
        rolledWhy(x, many, 0, 22);
        rolledWhy(x, many + "plants k 1 0;", 12, 22);
        LeafVotes y = Due.of("size 4 4;");
        String walls = "";
        for (int n = 0; n < 10; n++) {
            walls += "walls " + n % 4 + " " + n / 4 + ";";
        }
        rolledWhy(y, walls + "walls 3 3;", 32, 10);
        due("35 year", y.rolled(2), 0);
        due("35 no strip 0", y.rolled(3), NONE);
        rolledWhy(x, "blows east 3;blows still 1;blows east 3;fells 9;", 29, 3);
        due("35 year then", x.rolled(2), 3);
        due("35 the strip then", x.rolled(3), 1);
        due("35 not now", x.strip(0, 1), NONE);
        due("35 what 4", x.rolled(4), NONE);
        due("35 what -1", x.rolled(-1), NONE);
        for (int n = 0; n < 198; n++) {
            x.blow(STILL, 1);
        }
        rolledWhy(x, "blows still 1;blows east 3;", 1, 1);
        due("35 199 then", x.rolled(2), 199);
        due("35 a's then", x.rolled(3), 0);
        Due.roll(x, "rakes 9 9;", 0);
        x.parish();
        x.image(0);
        x.restore(0);
        due("35 it stays", x.rolled(0), 1);
    }

    // 36
    private static void sentence() {
        LeafVotes x = row();
        due("36 one", Due.sentence(x, "alive"), 1);
        due("36 the tape", x.count(7), 0);
        due("36 four", Due.sentence(x, "not ( alive and ever )"), 4);
        due("36 said by it", x.said(NONE), 2);
        due("36 a fault", Due.sentence(x, "not alive and"), -1 - 13);
        due("36 the tape then", x.count(7), 0);
        due("36 it stays", x.said(NONE), 2);
        due("36 none", x.sentence(), -1);
        due("36 it stays still", x.said(NONE), 2);
    }

    private static void said(LeafVotes x, String text, int... trees) {
        due("37 a sentence: " + text, Due.sentence(x, text) > 0 ? 1 : 0, 1);
        due("37 how many: " + text, x.said(NONE), trees.length);
        for (int k = 0; k < trees.length; k++) {
            due("37 " + k + " of " + text, x.said(k), trees[k]);
        }
        due("37 no more of " + text, x.said(trees.length), NONE);
    }

    // 37
    private static void said() {
        LeafVotes x = row();
        due("37 no sentence", x.said(NONE), NONE);
        due("37 no sentence, none", x.said(0), NONE);
        x.plant(0, 4, 0);
        x.fell(1);
        said(x, "alive", 0, 2, 3);
        said(x, "not alive", 1);
        said(x, "ever", 2);
        said(x, "of k", 0, 3);
        said(x, "of q", 1);
        said(x, "for a");
        said(x, "by s", 0, 2, 3);
        said(x, "x<4", 0, 1);
        said(x, "x = 4", 3);
        said(x, "x > 2", 2, 3);
        said(x, "y = 0", 0, 1, 2, 3);
        said(x, "y > 0");
        said(x, "leaves = 0", 1);
        said(x, "leaves = 1", 3);
        said(x, "leaves > 3", 0, 2);
        said(x, "number < 2", 0, 1);
        said(x, "number > 1", 2, 3);
        x.blow(EAST, 3);
        said(x, "for b", 0, 3);
        said(x, "leaves = 2", 3);
        x.blow(STILL, 1);
        said(x, "for a", 0);
        said(x, "for b", 3);
        x.fell(3);
        said(x, "for b", 3);
        said(x, "by s", 0, 2);
        said(x, "alive or ever and of q", 0, 2);
        said(x, "(alive or ever) and of e", 2);
        said(x, "ever or of k and not alive", 2, 3);
        said(x, "ever and alive or of q or x = 4", 1, 2, 3);
        said(x, "not ever and not of q", 0, 3);
        said(x, "not (ever or of q)", 0, 3);
        said(x, "not not ever", 2);
        said(x, "number = 0 or number = 1 and ever or number = 3", 0, 3);
        due("37 -2", x.said(-2), NONE);
        due("37 least", x.said(Integer.MIN_VALUE), NONE);
        LeafVotes y = new LeafVotes();
        Due.sentence(y, "alive");
        due("37 no trees", y.said(NONE), 0);
        due("37 none such", y.said(0), NONE);
    }

    // 38, 39
    private static void images() {
        LeafVotes x = row();
        Due.due("38 -1", x.image(-1), false);
        Due.due("38 2", x.image(2), false);
        Due.due("39 nothing is kept", x.restore(0), false);
        Due.due("39 nothing is kept in 1", x.restore(1), false);
        x.blow(EAST, 3);
        x.rake(1, 0);
        x.wall(6, 0);
        Due.sentence(x, "ever");
        Due.due("38 0", x.image(0), true);
        due("38 leaves undo", x.undo(), 2);
        Due.sentence(x, "alive");
        x.fell(0);
        Due.parish(x, "size 2 2;owner z;strip w 0 0 1 1;");
        Due.tape(x, "abc");
        Due.due("38 1", x.image(1), true);
        x.wall(0, 0);
        Due.due("39 0", x.restore(0), true);
        due("39 the tape stays", x.count(7), 3);
        due("39 wide", x.count(0), 7);
        due("39 year", x.now(0), 1);
        due("39 wall", x.cell(6, 0, 3), 1);
        due("39 walls", x.now(2), 1);
        due("39 raked", x.cell(1, 0, 4), 1);
        due("39 strip", x.strip(0, 1), 1);
        due("39 sack", x.owner(1, 2), 5);
        due("39 sacks", x.owner(0, 3), 2);
        due("39 lost", x.now(5), 2);
        due("39 voted", x.tree(0, 6), 1);
        due("39 alive", x.now(1), 7);
        due("39 said", x.said(0), 2);
        due("39 winds", x.likely(0, 0, 1), 5);
        x.end(0);
        due("39 names", Due.roll(x, "plants q 1 0;", 0), NONE);
        due("39 nothing can be undone", x.undo(), NONE);
        x.fell(0);
        Due.due("39 0 again", x.restore(0), true);
        due("39 as kept", x.now(1), 7);
        Due.due("39 1", x.restore(1), true);
        due("39 wide 2", x.count(0), 2);
        due("39 no wall", x.now(2), 0);
        due("39 no sentence", x.said(NONE), NONE);
        x.fell(0);
        x.wall(1, 1);
        Due.due("39 2", x.restore(2), false);
        Due.due("39 -1", x.restore(-1), false);
        due("39 undo stays then", x.undo(), 0);
        Due.due("38 over the old one", x.image(0), true);
        x.wall(1, 1);
        x.restore(0);
        due("39 the new one", x.count(0) * 10 + x.now(2), 20);
        LeafVotes y = row();
        bytes(y, 5, 5);
        y.blew();
        bytes(y, 1, 5);
        y.raked(EAST, 3);
        y.bestWall(0, 0);
        y.image(0);
        bytes(y, 6, 2);
        y.blew();
        bytes(y, 2, 2);
        y.raked(EAST, 3);
        y.bestWall(1, 0);
        y.roll(0);
        y.restore(0);
        due("39 wind stays", y.wind(), 44);
        due("39 where stays", y.where(), 5);
        due("39 at stays", y.at(), 1);
        due("39 rolled stays", y.rolled(0), 0);
    }

    // 40
    private static void count() {
        LeafVotes x = row();
        int[] want = {7, 1, 2, 1, 3, 3, 4, 0};
        for (int what = 0; what < 8; what++) {
            due("40 " + what, x.count(what), want[what]);
        }
        x.fell(0);
        due("40 felled ones, too", x.count(5), 3);
        x.plant(0, 1, 0);
        due("40 planted", x.count(5), 4);
        x.feed(0, 0, 0, 0, 0);
        due("40 bytes", x.count(7), 20);
        due("40 8", x.count(8), NONE);
        due("40 -1", x.count(-1), NONE);
    }
}
