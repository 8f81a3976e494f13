/** The faults of parishes, rolls and sentences: where they are and of what kind. */
public final class FaultsTest {
    private static final String BASE = "owner ann;owner bob;kind oak 3 2;kind fir 4 5 ever;strip mid 2 0 1 3;tree oak 0 0;";

    public static void main(String[] args) {
        parishTokens();
        parishLines();
        parishNumbers();
        parishNames();
        parishCells();
        parishLimits();
        parishBytes();
        rolls();
        sentences();
        Due.close();
    }

    /** A text's fault: its place is told by a bar in front of it. */
    private static void parish(String barred, int kind) {
        LeafVotes x = new LeafVotes();
        String text = barred.replace("|", "");
        Due.due("parish of " + barred, Due.parish(x, text), -1 - barred.indexOf('|'));
        Due.due("fault of " + barred, x.fault(), kind);
        Due.due("the tape behind " + barred, x.count(7), 0);
        Due.due("the parish stays behind " + barred, x.count(0) * 10 + x.count(2), 60);
    }

    private static void parishStands(String text, int lines) {
        LeafVotes x = new LeafVotes();
        Due.due("parish of " + text, Due.parish(x, text), lines);
        Due.due("fault of " + text, x.fault(), 0);
    }

    private static void roll(String barred, int kind) {
        LeafVotes x = Due.of(BASE);
        for (int lives = 0; lives < 2; lives++) {
            Due.due("roll of " + barred, Due.roll(x, barred.replace("|", ""), lives), -2 - barred.indexOf('|'));
            Due.due("fault of " + barred, x.fault(), kind);
            Due.due("the tape behind " + barred, x.count(7), 0);
            Due.due("nothing is rolled by " + barred, x.rolled(1), -1);
            Due.due("nothing is to be undone behind " + barred, x.undo(), -1);
        }
    }

    private static void sentence(String barred, int kind) {
        LeafVotes x = Due.of(BASE);
        Due.sentence(x, "alive");
        Due.due("sentence of " + barred, Due.sentence(x, barred.replace("|", "")), -1 - barred.indexOf('|'));
        Due.due("fault of " + barred, x.fault(), kind);
        Due.due("the tape behind " + barred, x.count(7), 0);
        Due.due("the sentence stays behind " + barred, x.said(0), 0);
    }

    private static void sentenceStands(String text, int ones) {
        LeafVotes x = Due.of(BASE);
        Due.due("sentence of " + text, Due.sentence(x, text), ones);
        Due.due("fault of " + text, x.fault(), 0);
    }

    private static void parishTokens() {
        parishStands("", 0);
        parishStands(" \n ", 0);
        parishStands("size 10 10;", 1);
        parishStands("\nsize\n07  01 ; owner abcdefg;", 2);
        parishStands("owner a;owner b;kind k 1 1;wind east 1 1;size 3 3;", 5);
        parish("owner |abcdefgh;", 1);
        parish("owner |a1;", 1);
        parish("owner |1a;", 1);
        parish("size |100 1;", 1);
        parish("size 1 |1x;", 1);
        parish("owner |Ann;", 1);
        parish("owner an|N;", 1);
        parish("owner a|.", 1);
        parish("owner a;|.", 1);
        parish("owner|\u0000a;", 1);
        parish("owner|\ta;", 1);
        parish("|\u00e9", 1);
        parish("size 1 1|\u0000", 1);
        parish("|,", 1);
        parish("size |# 1;", 1);
        parish("size 1 |#;", 1);
        parish("wall |# 0;", 1);
        parish("kind k 1 1 |#", 1);
    }

    private static void parishLines() {
        parish("|ann", 1);
        parish("|;", 1);
        parish("|1", 1);
        parish("|ever", 1);
        parish("|blows east 1;", 1);
        parish("size|", 1);
        parish("size  |", 1);
        parish("size 1 1|", 1);
        parish("size 1 1 |", 1);
        parish("size 1|;", 1);
        parish("size |x 1;", 1);
        parish("size 1 1 |1;", 1);
        parish("size 1 1;|;", 1);
        parish("owner|;", 1);
        parish("owner |1;", 1);
        parish("owner a |b;", 1);
        parish("kind k 1 1 |evers;", 1);
        parish("kind k 1 1 ever |ever;", 1);
        parish("kind k 1 |ever;", 1);
        parish("kind k 1 1 |owner a;", 1);
        parish("kind k 1 1|", 1);
        parish("kind k 1 1 ever|", 1);
        parish("wind |1 1 1;", 1);
        parish("wind |nord 1 1;", 1);
        parish("wind |x 1 1;", 1);
        parish("wind east |east 1;", 1);
        parish("wind east 1|;", 1);
        parish("wall 0|;", 1);
        parish("wall |a 0;", 1);
        parish("strip s 0 0 1|;", 1);
        parish("strip |0 0 1 1;", 1);
        parish("owner a;field a 0 0 1 1 |1;", 1);
        parish("owner a;field |0 0 0 1 1;", 1);
        parish("kind k 1 1;tree k 0 |k;", 1);
        parish("size 1 1;|<", 1);
    }

    private static void parishNumbers() {
        parish("size |0 1;", 2);
        parish("size |11 1;", 2);
        parish("size 1 |0;", 2);
        parish("size 1 |11;", 2);
        parish("kind k |0 1;", 2);
        parish("kind k |13 1;", 2);
        parish("kind k 12 |0;", 2);
        parish("kind k 12 |10;", 2);
        parishStands("kind k 12 9;", 1);
        parish("wind east |0 1;", 2);
        parish("wind east |5 1;", 2);
        parish("wind east 4 |0;", 2);
        parish("wind east 4 |10;", 2);
        parishStands("wind still 4 9;", 1);
        parish("strip s |6 0 1 1;", 2);
        parish("strip s 0 |6 1 1;", 2);
        parish("strip s 5 5 |0 1;", 2);
        parish("strip s 5 5 |2 1;", 2);
        parish("strip s 5 5 1 |0;", 2);
        parish("strip s 5 5 1 |2;", 2);
        parishStands("strip s 5 5 1 1;", 1);
        parishStands("strip s 0 0 6 6;", 1);
        parish("strip s 0 0 |7 6;", 2);
        parish("owner o;field o |6 0 1 1;", 2);
        parish("owner o;field o 0 |6 1 1;", 2);
        parish("owner o;field o 1 0 |6 1;", 2);
        parish("owner o;field o 0 1 1 |6;", 2);
        parish("size 2 3;wall |2 0;", 2);
        parish("size 2 3;wall 0 |3;", 2);
        parishStands("size 2 3;wall 1 2;", 2);
        parish("kind k 1 1;tree k |6 9;", 2);
        parish("kind k 1 1;tree k 5 |6;", 2);
    }

    private static void parishNames() {
        parish("owner a;owner |a;", 3);
        parish("owner a;kind |a 1 1;", 3);
        parish("owner a;strip |a 0 0 1 1;", 3);
        parish("strip a 0 0 1 1;kind |a 1 1;", 3);
        parish("kind a 1 1;owner |a;", 3);
        parish("field |o 0 0 1 1;", 3);
        parish("kind o 1 1;field |o 0 0 1 1;", 3);
        parish("strip o 0 0 1 1;field |o 0 0 1 1;", 3);
        parish("tree |k 0 0;", 3);
        parish("owner k;tree |k 0 0;", 3);
        parish("strip k 5 5 1 1;tree |k 0 0;", 3);
        parish("owner a;field |o 9 9 9 9;", 3);
        String[] told = {"size", "owner", "field", "strip", "kind", "ever", "tree", "wall", "wind", "still", "north", "east",
            "south", "west", "blows", "plants", "fells", "walls", "rakes", "or", "and", "not", "alive", "of", "for", "by", "x",
            "y", "leaves", "number"};
        for (String word : told) {
            parish("owner |" + word + ";", 1);
            parish("strip |" + word + " 0 0 1 1;", 1);
            parish("kind |" + word + " 1 1;", 1);
            parish("field |" + word + " 0 0 1 1;", 1);
            parish("tree |" + word + " 0 0;", 1);
        }
        parishStands("owner way;owner loud;owner chance;owner z;", 4);
        parish("size 1 1;|size 1 1;", 3);
        parish("size 1 1;|size 0 1;", 3);
        parish("owner o;field o 0 0 1 1;|size 1 1;", 3);
        parish("strip s 0 0 1 1;|size 1 1;", 3);
        parish("kind k 1 1;tree k 0 0;|size 1 1;", 3);
        parish("wall 0 0;|size 1 1;", 3);
    }

    private static void parishCells() {
        parish("owner o;field o 0 0 2 2;field o 1 1 2 |2;", 3);
        parish("owner o;field o 1 1 2 2;field o 0 0 6 |6;", 3);
        parish("owner o;field o 1 1 2 2;strip s 2 2 1 |1;", 3);
        parish("strip s 1 1 2 2;strip r 0 2 6 |1;", 3);
        parish("owner o;strip s 1 1 2 2;field o 2 0 1 |2;", 3);
        parish("owner o;strip s 1 1 2 2;field o 2 0 1 |7;", 2);
        parishStands("owner o;strip s 1 1 2 2;field o 3 0 1 2;field o 0 0 1 6;field o 1 0 2 1;field o 1 3 5 3;", 6);
        parish("kind k 1 1;tree k 3 4;tree k 3 |4;", 3);
        parish("kind k 1 1;tree k 3 4;wall 3 |4;", 3);
        parish("kind k 1 1;wall 3 4;tree k 3 |4;", 3);
        parish("wall 3 4;wall 3 |4;", 3);
        parishStands("kind k 1 1;wall 3 4;tree k 4 3;", 3);
        parish("wind east 1 1;wind east |1 1;", 3);
        parish("wind still 2 1;wind still |2 0;", 3);
        parishStands("wind east 1 1;wind east 2 1;wind west 1 1;wind still 1 1;wind still 2 1;", 5);
    }

    private static void parishLimits() {
        parishStands("owner a;owner b;owner c;owner d;", 4);
        parish("owner a;owner b;owner c;owner d;|owner a;", 4);
        parish("owner a;owner b;owner c;owner d;|owner", 4);
        String fields = "owner o;";
        for (int i = 0; i < 8; i++) {
            fields += "field o " + i % 6 + " " + i / 6 + " 1 1;";
        }
        parishStands(fields, 9);
        parish(fields + "|field o 5 5 1 1;", 4);
        String strips = "strip a 0 0 1 1;strip b 1 0 1 1;strip c 2 0 1 1;";
        parishStands(strips, 3);
        parish(strips + "|strip d 3 0 1 1;", 4);
        String kinds = "kind a 1 1;kind b 1 1;kind c 1 1;kind d 1 1;kind e 1 1 ever;";
        parishStands(kinds, 5);
        parish(kinds + "|kind f 1 1;", 4);
        String trees = "kind a 1 1;";
        for (int i = 0; i < 14; i++) {
            trees += "tree a " + i % 6 + " " + i / 6 + ";";
        }
        parishStands(trees, 15);
        parish(trees + "|tree a 5 5;", 4);
        String walls = "";
        for (int i = 0; i < 10; i++) {
            walls += "wall " + i % 6 + " " + i / 6 + ";";
        }
        parishStands(walls, 10);
        parish(walls + "|wall 5 5;", 4);
        String winds = "";
        for (int i = 0; i < 8; i++) {
            winds += "wind " + (i < 4 ? "still " : "west ") + (1 + i % 4) + " 1;";
        }
        parishStands(winds, 8);
        parish(winds + "|wind east 1 1;", 4);
    }

    private static String blanks(String text, int bytes) {
        return text + " ".repeat(bytes - text.length());
    }

    private static void parishAt(String text, int place, int kind) {
        parish(text.substring(0, place) + "|" + text.substring(place), kind);
    }

    private static void parishBytes() {
        String size = "size 1 1;";
        parishStands(blanks(size, 900), 1);
        parishAt(blanks(size, 901), 900, 1);
        parishAt(blanks(size, 940), 900, 1);
        parishAt(blanks(size, 900) + "owner a;", 900, 1);
        parishAt(blanks(size, 898) + "owner a;", 900, 1);
        parishAt(blanks(size, 900) + "size 1 1;", 900, 1);
        parishAt(blanks(size, 899) + "size 1 1;", 899, 3);
        parishAt(blanks(size, 894) + "owner abcd;", 900, 1);
        parishAt(blanks(size, 892) + "owner b;;", 900, 1);
        parishAt(blanks(size, 893) + "owner b   ", 900, 1);
        parishAt(blanks(size, 893) + "owner b", 900, 1);
        parishAt(blanks(size, 897) + "abcdefgh", 897, 1);
        parishAt(blanks(size, 899) + "12345", 899, 1);
        parishAt(blanks(size, 889) + "size 1 10;kind 1 1;", 889, 3);
        parishAt(blanks("owner a;", 893) + "owner a;", 899, 3);
        parishAt(blanks("owner a;", 893) + "owner ab;", 900, 1);
        parishAt(blanks("size 1 1;size 1 1;", 901), 9, 3);
        parishAt(blanks(size, 899) + ".  ", 899, 1);
        parishAt(blanks(size, 900) + "...", 900, 1);
    }

    private static void rolls() {
        roll("|x", 1);
        roll("|size 1 1;", 1);
        roll("|wall 0 0;", 1);
        roll("blows|;", 1);
        roll("blows east|;", 1);
        roll("blows |1 1;", 1);
        roll("blows east 1 |1;", 1);
        roll("blows east 1|", 1);
        roll("blows east |0;", 2);
        roll("blows east |5;", 2);
        roll("plants |elm 0 0;", 3);
        roll("plants |ann 0 0;", 3);
        roll("plants |mid 0 0;", 3);
        roll("plants |oaks 9 9;", 3);
        roll("plants |east 0 0;", 1);
        roll("plants |0 0 0;", 1);
        roll("plants oak |6 0;", 2);
        roll("plants oak 0 |6;", 2);
        roll("plants oak 0|;", 1);
        roll("fells |14;", 2);
        roll("fells |oak;", 1);
        roll("fells |100;", 1);
        roll("walls |6 0;", 2);
        roll("walls 5 |6;", 2);
        roll("rakes |6 6;", 2);
        roll("rakes 5 |6;", 2);
        roll("rakes 5 5;|;", 1);
        String forty = "fells 0;".repeat(40);
        roll(forty + "|fells 0;", 4);
        roll(forty + "|fell 0;", 1);
        roll(forty + "|fells", 4);
        LeafVotes x = Due.of(BASE);
        Due.due("a roll of 40 lines", Due.roll(x, forty, 0), 1);
        Due.due("a roll of 400 bytes", Due.roll(x, blanks("blows east 1;", 400), 0), -1);
        roll(blanks("blows east 1;", 400) + "| ", 1);
        roll(blanks("blows east 1;", 399) + "|blowse", 1);
        roll(forty + blanks("", 80) + "|fells 0;", 1);
        roll(forty + blanks("", 79) + "|fells 0;", 4);
        Due.due("a roll whose token goes beyond 400 bytes", Due.roll(x, blanks("", 396) + "blows east 1;", 0), -402);
        Due.due("its fault", x.fault(), 1);
    }

    private static void sentences() {
        sentence("|", 1);
        sentence("  |", 1);
        sentence("|and", 1);
        sentence("|)", 1);
        sentence("|oak", 1);
        sentence("|1", 1);
        sentence("|;", 1);
        sentence("alive |alive", 1);
        sentence("alive and|", 1);
        sentence("alive or|", 1);
        sentence("alive or |and", 1);
        sentence("not|", 1);
        sentence("not |or", 1);
        sentence("(|", 1);
        sentence("(|)", 1);
        sentence("(alive|", 1);
        sentence("(alive|;", 1);
        sentence("alive|)", 1);
        sentence("of|", 1);
        sentence("of |elm", 3);
        sentence("of |ann", 3);
        sentence("of |mid", 3);
        sentence("of |ever", 1);
        sentence("of |1", 1);
        sentence("for |oak", 3);
        sentence("for |mid", 3);
        sentence("for |cy", 3);
        sentence("by |ann", 3);
        sentence("by |fir", 3);
        sentence("by |low", 3);
        sentence("x|", 1);
        sentence("x |1", 1);
        sentence("x |; 1", 1);
        sentence("x =|", 1);
        sentence("x = |x", 1);
        sentence("x = |#", 1);
        sentence("x |# 1", 1);
        sentence("|#", 1);
        sentence("x = |100", 1);
        sentence("x = |1or y = 1", 1);
        sentence("x < 1 |< 2", 1);
        sentence("number > |(", 1);
        sentence("leaves < 1|;", 1);
        sentenceStands("alive", 1);
        sentenceStands("x<99 and y=00", 2);
        sentenceStands("not(leaves>1)", 3);
        sentenceStands("not not (alive) or (ever and number = 3)", 7);
        String nineteen = "ever or ".repeat(19);
        sentenceStands(nineteen + "ever", 20);
        sentence(nineteen + "ever or |ever", 4);
        sentence(nineteen + "not |ever", 4);
        sentence(nineteen + "(|ever)", 4);
        sentence(nineteen + "ever or |1", 1);
        sentence(nineteen + "ever or|", 1);
        sentenceStands("(((((((alive)))))))", 8);
        sentence("((((((((|alive))))))))", 4);
        sentenceStands("not not not not not not not alive", 8);
        sentence("not not not not not not not not |alive", 4);
        sentence("not (not (not (not (|not alive))))", 4);
        sentence("((((((((|)", 1);
        sentenceStands("((alive)) and ((alive)) and ((((((alive))))))", 13);
        sentenceStands(blanks("alive", 200), 1);
        sentence(blanks("alive", 200) + "| ", 1);
        sentence(blanks("alive", 199) + "|\u0001\u0001", 1);
        sentence(blanks(nineteen + "ever or", 200) + "|ever", 1);
        sentence(blanks(nineteen + "ever or", 199) + "|ever", 4);
        LeafVotes x = Due.of(BASE);
        Due.due("a token beyond 200 bytes", Due.sentence(x, blanks("", 197) + "alive"), -201);
        Due.due("its fault", x.fault(), 1);
    }
}
