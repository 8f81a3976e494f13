/** The faults of parishes, rolls and sentences: where they are and of what kind. */
public final class FaultsTest {
    public static void main(String[] args) {
        parishTokens();
        parishLines();
        parishNumbers();
        parishNames();
        parishCells();
        parishLimits();
        parishBytes();
        rolls();
        sentences();
        Due.close();
    }

    private static void parishTokens() {
        Texts.parishStands("", 0);
        Texts.parishStands(" \n ", 0);
        Texts.parishStands("size 10 10;", 1);
        Texts.parishStands("\nsize\n07  01 ; owner abcdefg;", 2);
        Texts.parishStands("owner a;owner b;kind k 1 1;wind east 1 1;size 3 3;", 5);
        Texts.parish("owner |abcdefgh;", 1);
        Texts.parish("owner |a1;", 1);
        Texts.parish("owner |1a;", 1);
        Texts.parish("size |100 1;", 1);
        Texts.parish("size 1 |1x;", 1);
        Texts.parish("owner |Ann;", 1);
        Texts.parish("owner an|N;", 1);
        Texts.parish("owner a|.", 1);
        Texts.parish("owner a;|.", 1);
        Texts.parish("owner|\u0000a;", 1);
        Texts.parish("owner|\ta;", 1);
        Texts.parish("|\u00e9", 1);
        Texts.parish("size 1 1|\u0000", 1);
        Texts.parish("|,", 1);
        Texts.parish("size |# 1;", 1);
        Texts.parish("size 1 |#;", 1);
        Texts.parish("wall |# 0;", 1);
        Texts.parish("kind k 1 1 |#", 1);
    }

    private static void parishLines() {
        Texts.parish("|ann", 1);
        Texts.parish("|;", 1);
        Texts.parish("|1", 1);
        Texts.parish("|ever", 1);
        Texts.parish("|blows east 1;", 1);
        Texts.parish("size|", 1);
        Texts.parish("size  |", 1);
        Texts.parish("size 1 1|", 1);
        Texts.parish("size 1 1 |", 1);
        Texts.parish("size 1|;", 1);
        Texts.parish("size |x 1;", 1);
        Texts.parish("size 1 1 |1;", 1);
        Texts.parish("size 1 1;|;", 1);
        Texts.parish("owner|;", 1);
        Texts.parish("owner |1;", 1);
        Texts.parish("owner a |b;", 1);
        Texts.parish("kind k 1 1 |evers;", 1);
        Texts.parish("kind k 1 1 ever |ever;", 1);
        Texts.parish("kind k 1 |ever;", 1);
        Texts.parish("kind k 1 1 |owner a;", 1);
        Texts.parish("kind k 1 1|", 1);
        Texts.parish("kind k 1 1 ever|", 1);
        Texts.parish("wind |1 1 1;", 1);
        Texts.parish("wind |nord 1 1;", 1);
        Texts.parish("wind |x 1 1;", 1);
        Texts.parish("wind east |east 1;", 1);
        Texts.parish("wind east 1|;", 1);
        Texts.parish("wall 0|;", 1);
        Texts.parish("wall |a 0;", 1);
        Texts.parish("strip s 0 0 1|;", 1);
        Texts.parish("strip |0 0 1 1;", 1);
        Texts.parish("owner a;field a 0 0 1 1 |1;", 1);
        Texts.parish("owner a;field |0 0 0 1 1;", 1);
        Texts.parish("kind k 1 1;tree k 0 |k;", 1);
        Texts.parish("size 1 1;|<", 1);
    }

    private static void parishNumbers() {
        Texts.parish("size |0 1;", 2);
        Texts.parish("size |11 1;", 2);
        Texts.parish("size 1 |0;", 2);
        Texts.parish("size 1 |11;", 2);
        Texts.parish("kind k |0 1;", 2);
        Texts.parish("kind k |13 1;", 2);
        Texts.parish("kind k 12 |0;", 2);
        Texts.parish("kind k 12 |10;", 2);
        Texts.parishStands("kind k 12 9;", 1);
        Texts.parish("wind east |0 1;", 2);
        Texts.parish("wind east |5 1;", 2);
        Texts.parish("wind east 4 |0;", 2);
        Texts.parish("wind east 4 |10;", 2);
        Texts.parishStands("wind still 4 9;", 1);
        Texts.parish("strip s |6 0 1 1;", 2);
        Texts.parish("strip s 0 |6 1 1;", 2);
        Texts.parish("strip s 5 5 |0 1;", 2);
        Texts.parish("strip s 5 5 |2 1;", 2);
        Texts.parish("strip s 5 5 1 |0;", 2);
        Texts.parish("strip s 5 5 1 |2;", 2);
        Texts.parishStands("strip s 5 5 1 1;", 1);
        Texts.parishStands("strip s 0 0 6 6;", 1);
        Texts.parish("strip s 0 0 |7 6;", 2);
        Texts.parish("owner o;field o |6 0 1 1;", 2);
        Texts.parish("owner o;field o 0 |6 1 1;", 2);
        Texts.parish("owner o;field o 1 0 |6 1;", 2);
        Texts.parish("owner o;field o 0 1 1 |6;", 2);
        Texts.parish("size 2 3;wall |2 0;", 2);
        Texts.parish("size 2 3;wall 0 |3;", 2);
        Texts.parishStands("size 2 3;wall 1 2;", 2);
        Texts.parish("kind k 1 1;tree k |6 9;", 2);
        Texts.parish("kind k 1 1;tree k 5 |6;", 2);
    }

    private static void parishNames() {
        Texts.parish("owner a;owner |a;", 3);
        Texts.parish("owner a;kind |a 1 1;", 3);
        Texts.parish("owner a;strip |a 0 0 1 1;", 3);
        Texts.parish("strip a 0 0 1 1;kind |a 1 1;", 3);
        Texts.parish("kind a 1 1;owner |a;", 3);
        Texts.parish("field |o 0 0 1 1;", 3);
        Texts.parish("kind o 1 1;field |o 0 0 1 1;", 3);
        Texts.parish("strip o 0 0 1 1;field |o 0 0 1 1;", 3);
        Texts.parish("tree |k 0 0;", 3);
        Texts.parish("owner k;tree |k 0 0;", 3);
        Texts.parish("strip k 5 5 1 1;tree |k 0 0;", 3);
        Texts.parish("owner a;field |o 9 9 9 9;", 3);
        String[] told = {"size", "owner", "field", "strip", "kind", "ever", "tree", "wall", "wind", "still", "north", "east",
            "south", "west", "blows", "plants", "fells", "walls", "rakes", "or", "and", "not", "alive", "of", "for", "by", "x",
            "y", "leaves", "number"};
        for (String word : told) {
            Texts.parish("owner |" + word + ";", 1);
            Texts.parish("strip |" + word + " 0 0 1 1;", 1);
            Texts.parish("kind |" + word + " 1 1;", 1);
            Texts.parish("field |" + word + " 0 0 1 1;", 1);
            Texts.parish("tree |" + word + " 0 0;", 1);
        }
        Texts.parishStands("owner way;owner loud;owner chance;owner z;", 4);
        Texts.parish("size 1 1;|size 1 1;", 3);
        Texts.parish("size 1 1;|size 0 1;", 3);
        Texts.parish("owner o;field o 0 0 1 1;|size 1 1;", 3);
        Texts.parish("strip s 0 0 1 1;|size 1 1;", 3);
        Texts.parish("kind k 1 1;tree k 0 0;|size 1 1;", 3);
        Texts.parish("wall 0 0;|size 1 1;", 3);
    }

    private static void parishCells() {
        Texts.parish("owner o;field o 0 0 2 2;field o 1 1 2 |2;", 3);
        Texts.parish("owner o;field o 1 1 2 2;field o 0 0 6 |6;", 3);
        Texts.parish("owner o;field o 1 1 2 2;strip s 2 2 1 |1;", 3);
        Texts.parish("strip s 1 1 2 2;strip r 0 2 6 |1;", 3);
        Texts.parish("owner o;strip s 1 1 2 2;field o 2 0 1 |2;", 3);
        Texts.parish("owner o;strip s 1 1 2 2;field o 2 0 1 |7;", 2);
        Texts.parishStands("owner o;strip s 1 1 2 2;field o 3 0 1 2;field o 0 0 1 6;field o 1 0 2 1;field o 1 3 5 3;", 6);
        Texts.parish("kind k 1 1;tree k 3 4;tree k 3 |4;", 3);
        Texts.parish("kind k 1 1;tree k 3 4;wall 3 |4;", 3);
        Texts.parish("kind k 1 1;wall 3 4;tree k 3 |4;", 3);
        Texts.parish("wall 3 4;wall 3 |4;", 3);
        Texts.parishStands("kind k 1 1;wall 3 4;tree k 4 3;", 3);
        Texts.parish("wind east 1 1;wind east |1 1;", 3);
        Texts.parish("wind still 2 1;wind still |2 0;", 3);
        Texts.parishStands("wind east 1 1;wind east 2 1;wind west 1 1;wind still 1 1;wind still 2 1;", 5);
    }

    private static void parishLimits() {
        Texts.parishStands("owner a;owner b;owner c;owner d;", 4);
        Texts.parish("owner a;owner b;owner c;owner d;|owner a;", 4);
        Texts.parish("owner a;owner b;owner c;owner d;|owner", 4);
        String fields = "owner o;";
        for (int i = 0; i < 8; i++) {
            fields += "field o " + i % 6 + " " + i / 6 + " 1 1;";
        }
        Texts.parishStands(fields, 9);
        Texts.parish(fields + "|field o 5 5 1 1;", 4);
        String strips = "strip a 0 0 1 1;strip b 1 0 1 1;strip c 2 0 1 1;";
        Texts.parishStands(strips, 3);
        Texts.parish(strips + "|strip d 3 0 1 1;", 4);
        String kinds = "kind a 1 1;kind b 1 1;kind c 1 1;kind d 1 1;kind e 1 1 ever;";
        Texts.parishStands(kinds, 5);
        Texts.parish(kinds + "|kind f 1 1;", 4);
        String trees = "kind a 1 1;";
        for (int i = 0; i < 14; i++) {
            trees += "tree a " + i % 6 + " " + i / 6 + ";";
        }
        Texts.parishStands(trees, 15);
        Texts.parish(trees + "|tree a 5 5;", 4);
        String walls = "";
        for (int i = 0; i < 10; i++) {
            walls += "wall " + i % 6 + " " + i / 6 + ";";
        }
        Texts.parishStands(walls, 10);
        Texts.parish(walls + "|wall 5 5;", 4);
        String winds = "";
        for (int i = 0; i < 8; i++) {
            winds += "wind " + (i < 4 ? "still " : "west ") + (1 + i % 4) + " 1;";
        }
        Texts.parishStands(winds, 8);
        Texts.parish(winds + "|wind east 1 1;", 4);
    }

    private static void parishBytes() {
        String size = "size 1 1;";
        Texts.parishStands(Texts.blanks(size, 900), 1);
        Texts.parish(Texts.bar(Texts.blanks(size, 901), 900), 1);
        Texts.parish(Texts.bar(Texts.blanks(size, 940), 900), 1);
        Texts.parish(Texts.bar(Texts.blanks(size, 900) + "owner a;", 900), 1);
        Texts.parish(Texts.bar(Texts.blanks(size, 898) + "owner a;", 900), 1);
        Texts.parish(Texts.bar(Texts.blanks(size, 900) + "size 1 1;", 900), 1);
        Texts.parish(Texts.bar(Texts.blanks(size, 899) + "size 1 1;", 899), 3);
        Texts.parish(Texts.bar(Texts.blanks(size, 894) + "owner abcd;", 900), 1);
        Texts.parish(Texts.bar(Texts.blanks(size, 892) + "owner b;;", 900), 1);
        Texts.parish(Texts.bar(Texts.blanks(size, 893) + "owner b   ", 900), 1);
        Texts.parish(Texts.bar(Texts.blanks(size, 893) + "owner b", 900), 1);
        Texts.parish(Texts.bar(Texts.blanks(size, 897) + "abcdefgh", 897), 1);
        Texts.parish(Texts.bar(Texts.blanks(size, 899) + "12345", 899), 1);
        Texts.parish(Texts.bar(Texts.blanks(size, 889) + "size 1 10;kind 1 1;", 889), 3);
        Texts.parish(Texts.bar(Texts.blanks("owner a;", 893) + "owner a;", 899), 3);
        Texts.parish(Texts.bar(Texts.blanks("owner a;", 893) + "owner ab;", 900), 1);
        Texts.parish(Texts.bar(Texts.blanks("size 1 1;size 1 1;", 901), 9), 3);
        Texts.parish(Texts.bar(Texts.blanks(size, 899) + ".  ", 899), 1);
        Texts.parish(Texts.bar(Texts.blanks(size, 900) + "...", 900), 1);
    }

    private static void rolls() {
        Texts.roll("|x", 1);
        Texts.roll("|size 1 1;", 1);
        Texts.roll("|wall 0 0;", 1);
        Texts.roll("blows|;", 1);
        Texts.roll("blows east|;", 1);
        Texts.roll("blows |1 1;", 1);
        Texts.roll("blows east 1 |1;", 1);
        Texts.roll("blows east 1|", 1);
        Texts.roll("blows east |0;", 2);
        Texts.roll("blows east |5;", 2);
        Texts.roll("plants |elm 0 0;", 3);
        Texts.roll("plants |ann 0 0;", 3);
        Texts.roll("plants |mid 0 0;", 3);
        Texts.roll("plants |oaks 9 9;", 3);
        Texts.roll("plants |east 0 0;", 1);
        Texts.roll("plants |0 0 0;", 1);
        Texts.roll("plants oak |6 0;", 2);
        Texts.roll("plants oak 0 |6;", 2);
        Texts.roll("plants oak 0|;", 1);
        Texts.roll("fells |14;", 2);
        Texts.roll("fells |oak;", 1);
        Texts.roll("fells |100;", 1);
        Texts.roll("walls |6 0;", 2);
        Texts.roll("walls 5 |6;", 2);
        Texts.roll("rakes |6 6;", 2);
        Texts.roll("rakes 5 |6;", 2);
        Texts.roll("rakes 5 5;|;", 1);
        String forty = "fells 0;".repeat(40);
        Texts.roll(forty + "|fells 0;", 4);
        Texts.roll(forty + "|fell 0;", 1);
        Texts.roll(forty + "|fells", 4);
        LeafVotes x = Due.of(Texts.BASE);
        Due.due("a roll of 40 lines", Due.roll(x, forty, 0), 1);
        Due.due("a roll of 400 bytes", Due.roll(x, Texts.blanks("blows east 1;", 400), 0), -1);
        Texts.roll(Texts.blanks("blows east 1;", 400) + "| ", 1);
        Texts.roll(Texts.blanks("blows east 1;", 399) + "|blowse", 1);
        Texts.roll(forty + Texts.blanks("", 80) + "|fells 0;", 1);
        Texts.roll(forty + Texts.blanks("", 79) + "|fells 0;", 4);
        Due.due("a roll whose token goes beyond 400 bytes", Due.roll(x, Texts.blanks("", 396) + "blows east 1;", 0), -402);
        Due.due("its fault", x.fault(), 1);
    }

    private static void sentences() {
        Texts.sentence("|", 1);
        Texts.sentence("  |", 1);
        Texts.sentence("|and", 1);
        Texts.sentence("|)", 1);
        Texts.sentence("|oak", 1);
        Texts.sentence("|1", 1);
        Texts.sentence("|;", 1);
        Texts.sentence("alive |alive", 1);
        Texts.sentence("alive and|", 1);
        Texts.sentence("alive or|", 1);
        Texts.sentence("alive or |and", 1);
        Texts.sentence("not|", 1);
        Texts.sentence("not |or", 1);
        Texts.sentence("(|", 1);
        Texts.sentence("(|)", 1);
        Texts.sentence("(alive|", 1);
        Texts.sentence("(alive|;", 1);
        Texts.sentence("alive|)", 1);
        Texts.sentence("of|", 1);
        Texts.sentence("of |elm", 3);
        Texts.sentence("of |ann", 3);
        Texts.sentence("of |mid", 3);
        Texts.sentence("of |ever", 1);
        Texts.sentence("of |1", 1);
        Texts.sentence("for |oak", 3);
        Texts.sentence("for |mid", 3);
        Texts.sentence("for |cy", 3);
        Texts.sentence("by |ann", 3);
        Texts.sentence("by |fir", 3);
        Texts.sentence("by |low", 3);
        Texts.sentence("x|", 1);
        Texts.sentence("x |1", 1);
        Texts.sentence("x |; 1", 1);
        Texts.sentence("x =|", 1);
        Texts.sentence("x = |x", 1);
        Texts.sentence("x = |#", 1);
        Texts.sentence("x |# 1", 1);
        Texts.sentence("|#", 1);
        Texts.sentence("x = |100", 1);
        Texts.sentence("x = |1or y = 1", 1);
        Texts.sentence("x < 1 |< 2", 1);
        Texts.sentence("number > |(", 1);
        Texts.sentence("leaves < 1|;", 1);
        Texts.sentenceStands("alive", 1);
        Texts.sentenceStands("x<99 and y=00", 2);
        Texts.sentenceStands("not(leaves>1)", 3);
        Texts.sentenceStands("not not (alive) or (ever and number = 3)", 7);
        String nineteen = "ever or ".repeat(19);
        Texts.sentenceStands(nineteen + "ever", 20);
        Texts.sentence(nineteen + "ever or |ever", 4);
        Texts.sentence(nineteen + "not |ever", 4);
        Texts.sentence(nineteen + "(|ever)", 4);
        Texts.sentence(nineteen + "ever or |1", 1);
        Texts.sentence(nineteen + "ever or|", 1);
        Texts.sentenceStands("(((((((alive)))))))", 8);
        Texts.sentence("((((((((|alive))))))))", 4);
        Texts.sentenceStands("not not not not not not not alive", 8);
        Texts.sentence("not not not not not not not not |alive", 4);
        Texts.sentence("not (not (not (not (|not alive))))", 4);
        Texts.sentence("((((((((|)", 1);
        Texts.sentenceStands("((alive)) and ((alive)) and ((((((alive))))))", 13);
        Texts.sentenceStands(Texts.blanks("alive", 200), 1);
        Texts.sentence(Texts.blanks("alive", 200) + "| ", 1);
        Texts.sentence(Texts.blanks("alive", 199) + "|\u0001\u0001", 1);
        Texts.sentence(Texts.blanks(nineteen + "ever or", 200) + "|ever", 1);
        Texts.sentence(Texts.blanks(nineteen + "ever or", 199) + "|ever", 4);
        LeafVotes x = Due.of(Texts.BASE);
        Due.due("a token beyond 200 bytes", Due.sentence(x, Texts.blanks("", 197) + "alive"), -201);
        Due.due("its fault", x.fault(), 1);
    }
}
