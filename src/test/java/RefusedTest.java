import java.util.NoSuchElementException;
import java.util.function.ToLongFunction;

/** Calls that are refused: what they answer, and that all is as if they had not been made. */
public final class RefusedTest {
    private static final int NONE = LeafVotes.NONE;
    private static final long THROWS = Long.MIN_VALUE;
    private static final int EAST = 2;

    private static final String YARD = "size 5 4;owner a;owner b;field a 0 0 2 4;field b 3 0 2 4;strip s 2 0 1 2;strip t 2 2 1 2;"
        + "kind k 4 3;kind q 1 1;kind e 5 9 ever;tree k 1 1;tree q 3 2;tree e 4 0;wall 2 3;"
        + "wind east 3 2;wind west 1 3;wind still 2 4;wind north 4 1;";

    public static void main(String[] args) {
        ofWhatIsSo();
        ofActs();
        ofWinds();
        ofPlans();
        ofTexts();
        actsThatCant();
        tapeThatIsFull();
        faultsOfTexts();
        sacksNotAsTold();
        Due.close();
    }

    /** A yard in which something of every sort was done and told. */
    private static LeafVotes lived() {
        LeafVotes x = Due.of(YARD);
        x.blow(EAST, 3);
        x.fell(1);
        x.plant(0, 3, 1);
        x.rake(0, 0);
        x.rake(4, 3);
        x.bestTree(0, 0, 0, 3);
        Due.tape(x, new byte[] {3, 3});
        x.blew();
        Due.tape(x, new byte[] {2, 3});
        x.raked(EAST, 1);
        Due.roll(x, "fells 1;", 0);
        Due.sentence(x, "alive or ever");
        Due.roll(x, "fells 14;", 0);
        Due.tape(x, "abc");
        return x;
    }

    private static long answer(LeafVotes x, ToLongFunction<LeafVotes> call) {
        try {
            return call.applyAsLong(x);
        } catch (NoSuchElementException e) {
            return THROWS;
        }
    }

    private static void refused(String what, long want, ToLongFunction<LeafVotes> call) {
        LeafVotes x = lived();
        LeafVotes twin = lived();
        Due.due(what, answer(x, call), want);
        Seen.alike(what, x, twin);
        Due.due(what + ": undo", x.undo(), twin.undo());
        Due.due(what + ": undone", x.now(3) * 1000 + x.now(1), twin.now(3) * 1000 + twin.now(1));
    }

    /** A call of one number. */
    private interface One {
        long of(LeafVotes x, int n);
    }

    /** Every number beside those from 0 to below many is refused. */
    private static void beside(String what, int many, long want, One call) {
        beside(what, 0, many - 1, want, call);
    }

    private static void beside(String what, int low, int high, long want, One call) {
        int[] wrong = {Integer.MIN_VALUE, -1000000, low - 2, low - 1, high + 1, high + 2, 256 + low, 65536 + low, Integer.MAX_VALUE};
        for (int n : wrong) {
            refused(what + " of " + n, want, x -> call.of(x, n));
        }
        for (int n = low; n <= high; n++) {
            int right = n;
            Due.due(what + " of " + n + " is not refused", answer(Due.of(YARD), x -> call.of(x, right)) != want, true);
        }
    }

    // 6 to 10, 40: "NoSuchElementException: no such ones"; "NONE: no such ones"; "NONE for another what"
    private static void ofWhatIsSo() {
        beside("tree t", 3 + 1, THROWS, (x, n) -> x.count(5) == 3 && n == 3 ? 0 : x.tree(n, 0));
        beside("tree what", 7, THROWS, (x, n) -> x.tree(0, n));
        beside("cell x", 5, THROWS, (x, n) -> x.cell(n, 0, 1));
        beside("cell y", 4, THROWS, (x, n) -> x.cell(0, n, 1));
        beside("cell what", 5, THROWS, (x, n) -> x.cell(0, 0, n));
        beside("owner o", 2, NONE, (x, n) -> x.owner(n, 0));
        refused("owner what 4", NONE, x -> x.owner(0, 4));
        refused("owner what -1", NONE, x -> x.owner(0, -1));
        refused("owner what least", NONE, x -> x.owner(0, Integer.MIN_VALUE));
        beside("strip s", 2, NONE, (x, n) -> x.strip(n, 0));
        refused("strip what 4", NONE, x -> x.strip(0, 4));
        refused("strip what -1", NONE, x -> x.strip(0, -1));
        refused("now 6", NONE, x -> x.now(6));
        refused("now -1", NONE, x -> x.now(-1));
        beside("count", 8, NONE, (x, n) -> x.count(n));
        refused("rolled 4", NONE, x -> x.rolled(4));
        refused("rolled -1", NONE, x -> x.rolled(-1));
        refused("rolled least", NONE, x -> x.rolled(Integer.MIN_VALUE));
        refused("said -2", NONE, x -> x.said(-2));
        refused("said 14", NONE, x -> x.said(14));
        refused("said most", NONE, x -> x.said(Integer.MAX_VALUE));
        refused("said least", NONE, x -> x.said(Integer.MIN_VALUE));
    }

    // 11 to 15: "NONE: no such WAY, FORCE", "NONE: no such ones", "NONE: no such one"
    private static void ofActs() {
        beside("blow way", 5, NONE, (x, n) -> x.blow(n, 1));
        for (int way = 0; way < 5; way++) {
            int by = way;
            beside("blow force by " + way, 1, 4, NONE, (x, n) -> x.blow(by, n));
        }
        beside("plant kind", 3, NONE, (x, n) -> x.plant(n, 0, 0));
        beside("plant x", 5, NONE, (x, n) -> x.plant(0, n, 0));
        beside("plant y", 4, NONE, (x, n) -> x.plant(0, 0, n));
        beside("fell", 4, NONE, (x, n) -> x.count(5) == 3 && n == 3 ? 0 : x.fell(n));
        beside("wall x", 5, NONE, (x, n) -> x.wall(n, 0));
        beside("wall y", 4, NONE, (x, n) -> x.wall(0, n));
        beside("rake x", 5, NONE, (x, n) -> x.rake(n, 0));
        beside("rake y", 4, NONE, (x, n) -> x.rake(0, n));
    }

    // 17 to 23: "NONE: no such ones", "-2: no such ones", "NoSuchElementException: no such ones"
    private static void ofWinds() {
        beside("leaves x", 5, NONE, (x, n) -> x.leaves(n, 0, EAST, 1));
        beside("leaves y", 4, NONE, (x, n) -> x.leaves(0, n, EAST, 1));
        beside("leaves way", 5, NONE, (x, n) -> x.leaves(0, 0, n, 1));
        beside("leaves force", 1, 4, NONE, (x, n) -> x.leaves(0, 0, EAST, n));
        beside("votes t", 4, -2, (x, n) -> x.count(5) == 3 && n == 3 ? 0 : x.votes(n, 0, EAST, 1));
        beside("votes s", 2, -2, (x, n) -> x.votes(0, n, EAST, 1));
        beside("votes way", 5, -2, (x, n) -> x.votes(0, 0, n, 1));
        beside("votes force", 1, 4, -2, (x, n) -> x.votes(0, 0, EAST, n));
        beside("voices o", 2, NONE, (x, n) -> x.voices(n, 0, EAST, 1));
        beside("voices s", 2, NONE, (x, n) -> x.voices(0, n, EAST, 1));
        beside("voices way", 5, NONE, (x, n) -> x.voices(0, 0, n, 1));
        beside("voices force", 1, 4, NONE, (x, n) -> x.voices(0, 0, EAST, n));
        beside("goes s", 2, -2, (x, n) -> x.goes(n, EAST, 1));
        beside("goes way", 5, -2, (x, n) -> x.goes(0, n, 1));
        beside("goes force", 1, 4, -2, (x, n) -> x.goes(0, EAST, n));
        beside("sack o", 2, NONE, (x, n) -> x.sack(n, EAST, 1));
        beside("sack way", 5, NONE, (x, n) -> x.sack(0, n, 1));
        beside("sack force", 1, 4, NONE, (x, n) -> x.sack(0, EAST, n));
        beside("likely o", 2, THROWS, (x, n) -> x.likely(n, 0, 0));
        beside("likely s", 2, THROWS, (x, n) -> x.likely(0, n, 0));
        beside("likely what", 2, THROWS, (x, n) -> x.likely(0, 0, n));
        beside("decides s", 2, NONE, (x, n) -> x.decides(n, EAST, 1));
        beside("decides way", 5, NONE, (x, n) -> x.decides(0, n, 1));
        beside("decides force", 1, 4, NONE, (x, n) -> x.decides(0, EAST, n));
    }

    // 28 to 30, 32, 33: "NONE: no such ones", "alike", "YEARS 0 to 20", "n (1 to 60)", "n (1 to 30)"
    private static void ofPlans() {
        beside("bestTree o", 2, NONE, (x, n) -> x.bestTree(n, 0, 0, 0));
        beside("bestTree s", 2, NONE, (x, n) -> x.bestTree(0, n, 0, 0));
        beside("bestTree kind", 3, NONE, (x, n) -> x.bestTree(0, 0, n, 0));
        beside("bestTree years", 0, 20, NONE, (x, n) -> x.bestTree(0, 0, 0, n));
        beside("bestWall o", 2, NONE, (x, n) -> x.bestWall(n, 0));
        beside("bestWall s", 2, NONE, (x, n) -> x.bestWall(0, n));
        beside("duel o", 0, 0, NONE, (x, n) -> x.duel(n, 1, 0, 0));
        beside("duel p", 1, 1, NONE, (x, n) -> x.duel(0, n, 0, 0));
        beside("duel s", 2, NONE, (x, n) -> x.duel(0, 1, n, 0));
        beside("duel kind", 3, NONE, (x, n) -> x.duel(0, 1, 0, n));
        beside("drawn n", 1, 60, NONE, (x, n) -> x.drawn(n, 1));
        beside("odds o", 2, NONE, (x, n) -> x.odds(n, 0, 1, 1));
        beside("odds s", 2, NONE, (x, n) -> x.odds(0, n, 1, 1));
        beside("odds n", 1, 30, NONE, (x, n) -> x.odds(0, 0, n, 1));
    }

    // 3: "false, if it has not so many, or n is below 0"; 34: "-1000: another lives (the tape stays)"; 38, 39: "false: no such one"
    private static void ofTexts() {
        for (int n : new int[] {4, 5, 20, 940, 941, Integer.MAX_VALUE, -1, -3, Integer.MIN_VALUE}) {
            refused("end " + n, 0, x -> x.end(n) ? 1 : 0);
        }
        beside("roll", 2, -1000, (x, n) -> x.roll(n));
        beside("image", 2, 0, (x, n) -> x.image(n) ? 1 : 0);
        for (int n : new int[] {0, 1, 2, -1, Integer.MAX_VALUE, Integer.MIN_VALUE}) {
            refused("restore " + n + ", nothing kept", 0, x -> x.restore(n) ? 1 : 0);
        }
        LeafVotes x = lived();
        x.image(1);
        Due.due("restore of what is kept in another place", x.restore(0), false);
        Due.due("restore of what is kept", x.restore(1), true);
    }

    // "To PLANT: 1 .. 2 ..; To FELL: 1 ..; To WALL: 1 .. 2 ..; To RAKE: 1 .."
    private static void actsThatCant() {
        refused("plant where a tree is", 1, x -> x.plant(1, 1, 1));
        refused("plant where a planted tree is", 1, x -> x.plant(1, 3, 1));
        refused("plant where a wall is", 1, x -> x.plant(1, 2, 3));
        refused("fell what is felled", 1, x -> x.fell(1));
        refused("wall where a tree is", 1, x -> x.wall(4, 0));
        refused("wall where a wall is", 1, x -> x.wall(2, 3));
        refused("rake what is raked", 1, x -> x.rake(4, 3));
        refused("undo of nothing, as often as one likes", NONE, x -> {
            LeafVotes y = Due.of(YARD);
            y.undo();
            return y.undo();
        });
    }

    // 2: "NONE, and none come, if it would have more than 940"
    private static void tapeThatIsFull() {
        for (int first = 0; first < 20; first++) {
            LeafVotes x = new LeafVotes();
            x.feed(0x20202020, 0x20202020, 0x20202020, 0x20202020, 0x20202020);
            x.end(first);
            int length = first;
            for (int n = 0; n < 50; n++) {
                boolean fits = length + 20 <= 940;
                length = fits ? length + 20 : length;
                Due.due("feed behind " + first, x.feed(n, n, n, n, n), fits ? length : NONE);
                Due.due("bytes behind " + first, x.count(7), length);
            }
            Due.due("no byte of it came", x.end(length + 1), false);
        }
        LeafVotes y = new LeafVotes();
        String full = "owner a;" + " ".repeat(892);
        Due.tape(y, full);
        Due.tape(y, " ".repeat(40));
        y.feed(-1, -1, -1, -1, -1);
        y.end(900);
        Due.due("the bytes that were there are as they were", y.parish(), 1);
    }

    // 4, 34, 36: "a FAULT: it stays"; "(empty then, here and below)"
    private static void faultsOfTexts() {
        for (int which = 0; which < 4; which++) {
            LeafVotes x = lived();
            LeafVotes twin = lived();
            twin.end(0);
            int got = which == 0 ? x.parish() : which == 3 ? x.sentence() : x.roll(which - 1);
            Due.due("a text of letters, " + which, got, which == 1 || which == 2 ? -2 : -1);
            Due.due("its fault, " + which, x.fault(), 1);
            // Only the fault is another one.
            Due.roll(x, "fells 14;", 0);
            Due.due("the fault again", x.fault(), 2);
            Seen.alike("a fault, " + which, x, twin);
            Due.due("undo behind a fault, " + which, x.undo(), twin.undo());
        }
    }

    // 24, 26: "NONE: not as told (a byte for each OWNER, one at least)", "no such wind"; the tape is empty then
    private static void sacksNotAsTold() {
        for (int bytes = 0; bytes <= 21; bytes++) {
            for (int which = 0; which < 2; which++) {
                LeafVotes x = lived();
                LeafVotes twin = lived();
                twin.end(0);
                x.end(0);
                Due.tape(x, "\u0003\u0003" + " ".repeat(20));
                x.end(bytes);
                int got = which == 0 ? x.blew() : x.raked(EAST, 1);
                Due.due("sacks of " + bytes + " bytes, " + which, got == NONE, bytes != 2);
                if (bytes != 2) {
                    Seen.alike("sacks of " + bytes + " bytes, " + which, x, twin);
                }
                Due.due("the tape behind sacks of " + bytes, x.count(7), 0);
            }
        }
        int[][] winds = {{-1, 1}, {5, 1}, {EAST, 0}, {EAST, 5}, {0, 0}, {0, 5}, {Integer.MIN_VALUE, 1}, {1, Integer.MAX_VALUE}};
        for (int[] wind : winds) {
            LeafVotes x = lived();
            LeafVotes twin = lived();
            twin.end(0);
            x.end(2);
            Due.due("raked by no such wind", x.raked(wind[0], wind[1]), NONE);
            Seen.alike("raked by no such wind", x, twin);
        }
        LeafVotes none = new LeafVotes();
        Due.due("blew without owners", none.blew(), NONE);
        Due.due("raked without owners", none.raked(0, 1), NONE);
    }
}
