/** Every sentence of the document's Terms on texts that names a boundary, in the document's order: each has its own test. */
public final class TextBoundsTest {
    private static final String[] WAYS = {"still", "north", "east", "south", "west"};
    private static final String[] RESERVED = {"size", "owner", "field", "strip", "kind", "ever", "tree", "wall", "wind",
        "still", "north", "east", "south", "west", "blows", "plants", "fells", "walls", "rakes", "or", "and", "not", "alive",
        "of", "for", "by", "x", "y", "leaves", "number"};

    public static void main(String[] args) {
        blanksBetweenOrNot();
        wordsOfOneToSeven();
        numbersOfOneToTwo();
        signs();
        goesOnAsLong();
        parishOf900();
        parishOfLines();
        sizeOneToTen();
        sizeOnce();
        sizeAheadOfAll();
        sizeWithout();
        placesBelow();
        widthsInParish();
        cellsOfNone();
        kindNumbers();
        kindEver();
        oneTreeOrWall();
        windNumbers();
        windOnce();
        waysNumbered();
        namesReserved();
        namesOnce();
        namesNotTold();
        atMost();
        allAtMost();
        numberedFromZero();
        rollOf400();
        rollOf40Lines();
        rollNumbers();
        sentenceOf200();
        twentyOnes();
        eightWithin();
        sentenceNumbers();
        firstAlongTheText();
        leastOfOneToken();
        atTheEnd();
        mostBytes();
        readWhole();
        inTurn();
        sizeAgain();
        cellThatIsHad();
        wayAgain();
        oneMore();
        Due.close();
    }

    /** How a kind of text tells that it has a fault, or stands. */
    private enum Sort { PARISH, ROLL, SENTENCE }

    private static void fault(Sort sort, String text, int place, int kind) {
        String barred = Texts.bar(text, place);
        switch (sort) {
            case PARISH -> Texts.parish(barred, kind);
            case ROLL -> Texts.roll(barred, kind);
            default -> Texts.sentence(barred, kind);
        }
    }

    private static void stands(Sort sort, String text, int many) {
        switch (sort) {
            case PARISH -> Texts.parishStands(text, many);
            case ROLL -> Texts.rollStands(text);
            default -> Texts.sentenceStands(text, many);
        }
    }

    /** All numbers of one or two digits between two parts of a text: those from low to high stand, all others are fault 2. */
    private static void numbers(Sort sort, String before, int low, int high, String behind) {
        int many = sort == Sort.PARISH ? (int) (before + behind).chars().filter(c -> c == ';').count() : 1;
        for (int n = 0; n < 100; n++) {
            String text = before + n + behind;
            if (n >= low && n <= high) {
                stands(sort, text, many);
            } else {
                fault(sort, text, before.length(), 2);
            }
        }
        fault(sort, before + "100" + behind, before.length(), 1);
        fault(sort, before + "(" + behind, before.length(), 1);
        fault(sort, before + "one" + behind, before.length(), 1);
    }

    // "TOKENS of all texts, with blanks (32, 10) between them or not"
    private static void blanksBetweenOrNot() {
        for (int b = 0; b < 256; b++) {
            String text = "size 3 2;" + (char) b;
            if (b == 32 || b == 10) {
                Texts.parishStands(text, 1);
            } else {
                fault(Sort.PARISH, text, 9, 1);
            }
        }
        Texts.parishStands("\n \nsize\n3 \n2\n;\n\nowner  a  ;\n", 2);
        Texts.parishStands("size 3 2;owner a;", 2);
        Texts.sentenceStands("not(x<1)and(y=2)or leaves>3", 6);
        Texts.sentenceStands("not ( x < 1 ) and ( y = 2 ) or leaves > 3", 6);
        Texts.rollStands("rakes 0 0;rakes 1 0;");
        Texts.rollStands(" rakes\n0\n0 ; rakes 1 0\n;\n");
        Texts.parish("size |32;owner a;", 2);
        Texts.parish("|sizes 2;", 1);
    }

    // "WORDS: small letters, 1 to 7"
    private static void wordsOfOneToSeven() {
        String seven = "";
        for (int n = 1; n <= 7; n++) {
            seven += "z";
            Texts.parishStands("owner " + seven + ";", 1);
            Texts.parishStands("owner " + seven + ";field " + seven + " 0 0 1 1;", 2);
        }
        Texts.parish("owner |zzzzzzzz;", 1);
        Texts.parish("owner |zzzzzzzzzzzzzzzzzzzz;", 1);
        Texts.parish("owner |Z;", 1);
        Texts.parish("owner z|Z;", 1);
        Texts.parish("owner |`;", 1);
        Texts.parish("owner |{;", 1);
        Texts.parishStands("owner az;owner za;owner a;owner z;", 4);
        // Each of the seven letters tells two words apart.
        for (int n = 0; n < 7; n++) {
            String other = "aaaaaaa".substring(0, n) + "b" + "aaaaaaa".substring(n + 1);
            Texts.parishStands("owner aaaaaaa;owner " + other + ";", 2);
            Texts.parish("owner aaaaaaa;owner " + other + ";owner |" + other + ";", 3);
        }
        Texts.parishStands("owner a;owner aa;owner aaa;owner aaaa;", 4);
    }

    // "NUMBERS: 1 to 2 digits"
    private static void numbersOfOneToTwo() {
        Texts.parishStands("size 1 9;", 1);
        Texts.parishStands("size 01 09;", 1);
        Texts.parishStands("size 10 10;", 1);
        Texts.parish("size |001 1;", 1);
        Texts.parish("size 1 |010;", 1);
        Texts.parish("size |100 1;", 1);
        Texts.parish("size |99999999999 1;", 1);
        Texts.parish("size |-1 1;", 1);
        Texts.parish("size |/ 1;", 1);
        Texts.parish("size |: 1;", 1);
        Texts.rollStands("fells 00;fells 01;");
        Texts.roll("fells |000;", 1);
        Texts.sentenceStands("x = 0 or x = 00 or x = 99", 3);
        Texts.sentence("x = |000", 1);
    }

    // "; < = > ( ) ."
    private static void signs() {
        Texts.sentenceStands("(x<1 or x=1 or x>1)", 4);
        for (String sign : new String[] {".", ",", ":", "!", "[", "]", "{", "}", "+", "-", "*", "/", "\"", "'", "_", "&"}) {
            Texts.parish("|" + sign, 1);
            Texts.parish("size 1 1|" + sign, 1);
            Texts.parish("size 1 1;|" + sign, 1);
            Texts.roll("rakes 1 1|" + sign, 1);
            Texts.sentence("alive |" + sign, 1);
            Texts.sentence("x |" + sign + " 1", 1);
        }
        for (String sign : new String[] {"<", "=", ">", "(", ")"}) {
            Texts.parish("size 1 1|" + sign, 1);
            Texts.roll("rakes 1 1|" + sign, 1);
        }
        Texts.sentence("alive|;", 1);
        Texts.sentence("x <|= 1", 1);
    }

    // "A WORD, NUMBER goes on as long as small letters and digits do; what is not as told is no TOKEN."
    private static void goesOnAsLong() {
        Texts.parish("owner |a1;", 1);
        Texts.parish("owner |1a;", 1);
        Texts.parish("owner |a1b2;", 1);
        Texts.parish("|size1 1;", 1);
        Texts.parish("size |1x 1;", 1);
        Texts.parish("size 1 |1owner a;", 1);
        Texts.parish("owner |abcdefg1;", 1);
        Texts.parish("owner |abcdefgsize 1 1;", 1);
        Texts.parish("size |11111;", 1);
        Texts.parishStands("owner abcdefg;size 1 1;", 2);
        Texts.sentence("x = |1and y = 2", 1);
        Texts.sentence("|x1 = 1", 1);
        Texts.roll("fells |1a;", 1);
    }

    // "A PARISH is a text of at most 900 bytes"
    private static void parishOf900() {
        String text = "owner a;owner b;";
        Texts.parishStands(Texts.blanks(text, 899), 2);
        Texts.parishStands(Texts.blanks(text, 900), 2);
        fault(Sort.PARISH, Texts.blanks(text, 901), 900, 1);
        fault(Sort.PARISH, Texts.blanks(text, 940), 900, 1);
        Texts.parishStands(" ".repeat(884) + text, 2);
        fault(Sort.PARISH, " ".repeat(885) + text, 900, 1);
        Texts.parishStands(" ".repeat(900), 0);
        fault(Sort.PARISH, " ".repeat(901), 900, 1);
    }

    // "{ LINE ; }"
    private static void parishOfLines() {
        Texts.parishStands("", 0);
        Texts.parishStands("owner a;", 1);
        Texts.parish("owner a|", 1);
        Texts.parish("|;", 1);
        Texts.parish("owner a;|;", 1);
        Texts.parish("owner a |owner b;", 1);
        Texts.rollStands("");
        Texts.roll("rakes 1 1|", 1);
        Texts.roll("|;", 1);
        Texts.roll("rakes 1 1;|;", 1);
    }

    // "'size' WIDE HIGH (1 to 10 both"
    private static void sizeOneToTen() {
        numbers(Sort.PARISH, "size ", 1, 10, " 3;");
        numbers(Sort.PARISH, "size 3 ", 1, 10, ";");
        for (int side = 1; side <= 10; side++) {
            LeafVotes x = Texts.parishStands("size " + side + " " + (11 - side) + ";", 1);
            Due.due("wide of " + side, x.count(0), side);
            Due.due("high of " + side, x.count(1), 11 - side);
        }
    }

    // "once"
    private static void sizeOnce() {
        Texts.parish("size 1 1;|size 1 1;", 3);
        Texts.parish("size 6 6;owner a;|size 6 6;", 3);
        Texts.parish("size 6 6;owner a;|size", 3);
    }

    // "ahead of all fields, strips, trees, walls"
    private static void sizeAheadOfAll() {
        Texts.parish("owner a;field a 0 0 1 1;|size 6 6;", 3);
        Texts.parish("strip s 0 0 1 1;|size 6 6;", 3);
        Texts.parish("kind k 1 1;tree k 0 0;|size 6 6;", 3);
        Texts.parish("wall 0 0;|size 6 6;", 3);
        Texts.parish("wall 0 0;owner a;|size 6 6;", 3);
        Texts.parishStands("owner a;kind k 1 1;wind east 1 1;size 9 9;field a 8 8 1 1;strip s 7 8 1 1;tree k 8 8;wall 7 8;", 8);
    }

    // "6 6 without"
    private static void sizeWithout() {
        for (String text : new String[] {"", "owner a;", "wall 5 5;"}) {
            LeafVotes x = Due.of(text);
            Due.due("wide without size", x.count(0), 6);
            Due.due("high without size", x.count(1), 6);
        }
        numbers(Sort.PARISH, "wall ", 0, 5, " 5;");
        numbers(Sort.PARISH, "wall 5 ", 0, 5, ";");
        // A size that was told ahead, in another text, is not the size of this one.
        LeafVotes x = Due.of("size 2 9;");
        Due.parish(x, "owner a;");
        Due.due("6 6 again", x.count(0) * 10 + x.count(1), 66);
    }

    // "X below the PARISH's WIDE, Y below its HIGH"
    private static void placesBelow() {
        String head = "size 7 4;owner a;kind k 1 1;";
        for (String what : new String[] {"field a ", "strip s "}) {
            numbers(Sort.PARISH, head + what, 0, 6, " 0 1 1;");
            numbers(Sort.PARISH, head + what + "0 ", 0, 3, " 1 1;");
        }
        for (String what : new String[] {"tree k ", "wall "}) {
            numbers(Sort.PARISH, head + what, 0, 6, " 0;");
            numbers(Sort.PARISH, head + what + "0 ", 0, 3, ";");
        }
    }

    // "WIDE, HIGH 1 at least, all of it in the PARISH"
    private static void widthsInParish() {
        String head = "size 7 4;owner a;";
        for (String what : new String[] {"field a ", "strip s "}) {
            for (int x = 0; x < 7; x++) {
                numbers(Sort.PARISH, head + what + x + " 3 ", 1, 7 - x, " 1;");
            }
            for (int y = 0; y < 4; y++) {
                numbers(Sort.PARISH, head + what + "6 " + y + " 1 ", 1, 4 - y, ";");
            }
        }
        Due.due("the whole parish", Due.of("size 7 4;strip s 0 0 7 4;").strip(0, 0), 28);
        Due.due("the whole of the largest", Due.of("size 10 10;strip s 0 0 10 10;").strip(0, 0), 100);
        Due.due("the whole of the least", Due.of("size 1 1;strip s 0 0 1 1;").strip(0, 0), 1);
    }

    // "no cell of it in a field or strip that was told"
    private static void cellsOfNone() {
        String[] first = {"field a 2 2 3 2;", "strip r 2 2 3 2;"};
        String[] second = {"field b ", "strip s "};
        for (String told : first) {
            for (String what : second) {
                String head = "size 7 7;owner a;owner b;" + told + what;
                for (int c = 0; c < 49; c++) {
                    int x = c % 7;
                    int y = c / 7;
                    boolean had = x >= 2 && x <= 4 && y >= 2 && y <= 3;
                    String before = head + x + " " + y + " 1 ";
                    if (had) {
                        fault(Sort.PARISH, before + "1;", before.length(), 3);
                    } else {
                        Texts.parishStands(before + "1;", 5);
                    }
                }
                // Each corner alone, the whole of it, a band across, and what only touches it.
                Texts.parish(head + "0 0 3 |3;", 3);
                Texts.parish(head + "4 0 3 |3;", 3);
                Texts.parish(head + "0 3 3 |4;", 3);
                Texts.parish(head + "4 3 3 |4;", 3);
                Texts.parish(head + "0 0 7 |7;", 3);
                Texts.parish(head + "0 2 7 |1;", 3);
                Texts.parish(head + "3 0 1 |7;", 3);
                Texts.parishStands(head + "0 0 7 2;", 5);
                Texts.parishStands(head + "0 0 2 7;", 5);
                Texts.parishStands(head + "5 0 2 7;", 5);
                Texts.parishStands(head + "0 4 7 3;", 5);
            }
        }
        // An owner's own field is none that he may tell again.
        Texts.parish("owner a;field a 0 0 1 1;field a 0 0 1 |1;", 3);
    }

    // "'kind' NAME LEAVES LOUD .. (1 to 12; 1 to 9"
    private static void kindNumbers() {
        numbers(Sort.PARISH, "kind k ", 1, 12, " 1;");
        numbers(Sort.PARISH, "kind k 1 ", 1, 9, ";");
        numbers(Sort.PARISH, "kind k 1 ", 1, 9, " ever;");
        LeafVotes x = Due.of("kind k 12 9;kind l 1 1;tree k 0 0;tree l 1 0;");
        Due.due("most leaves", x.tree(0, 3), 12);
        Due.due("most loud", x.tree(0, 4), 9);
        Due.due("least leaves", x.tree(1, 3), 1);
        Due.due("least loud", x.tree(1, 4), 1);
    }

    // "[ 'ever' ]"
    private static void kindEver() {
        Texts.parishStands("kind k 1 1;", 1);
        Texts.parishStands("kind k 1 1 ever;", 1);
        Texts.parish("kind k 1 1 ever |ever;", 1);
        Texts.parish("kind k 1 1 |evers;", 1);
        Texts.parish("kind k 1 1 |k;", 1);
        Texts.parish("kind k 1 1 |1;", 1);
        Texts.parish("kind k 1 |ever;", 1);
        Texts.parish("kind k |ever 1 1;", 1);
        Texts.parish("kind |ever 1 1;", 1);
    }

    // "one tree or wall in a cell"
    private static void oneTreeOrWall() {
        for (String first : new String[] {"tree k 4 3;", "wall 4 3;"}) {
            for (String second : new String[] {"tree k ", "wall "}) {
                String head = "kind k 1 1;" + first + second;
                Texts.parish(head + "4 |3;", 3);
                Texts.parishStands(head + "3 4;", 3);
                Texts.parishStands(head + "5 3;", 3);
                Texts.parishStands(head + "4 2;", 3);
            }
        }
        // Fields and strips take no tree's place.
        Texts.parishStands("owner a;kind k 1 1;field a 0 0 2 2;strip s 2 2 2 2;tree k 1 1;wall 3 3;wall 0 0;tree k 2 2;", 8);
    }

    // "'wind' WAY FORCE CHANCE (FORCE 1 to 4; CHANCE 1 to 9"
    private static void windNumbers() {
        for (String way : WAYS) {
            numbers(Sort.PARISH, "wind " + way + " ", 1, 4, " 1;");
            numbers(Sort.PARISH, "wind " + way + " 4 ", 1, 9, ";");
        }
    }

    // "each WAY with each FORCE once"
    private static void windOnce() {
        for (int first = 0; first < 20; first++) {
            for (int second = 0; second < 20; second++) {
                String head = "wind " + WAYS[first / 4] + " " + (1 + first % 4) + " 1;wind " + WAYS[second / 4] + " ";
                String text = head + (1 + second % 4) + " 2;";
                if (first == second) {
                    fault(Sort.PARISH, text, head.length(), 3);
                } else {
                    Texts.parishStands(text, 2);
                }
            }
        }
    }

    // "WAY: 'still' | 'north' | 'east' | 'south' | 'west' (numbered from 0)"
    private static void waysNumbered() {
        int[] xs = {2, 2, 3, 2, 1};
        int[] ys = {2, 1, 2, 3, 2};
        for (int way = 0; way < 5; way++) {
            LeafVotes x = Due.of("size 5 5;kind k 2 1;tree k 2 2;");
            Due.due("where the second leaf goes by " + WAYS[way], x.leaves(xs[way], ys[way], way, 1), way == 0 ? 2 : 1);
            Due.due("a roll by " + WAYS[way], Due.roll(x, "blows " + WAYS[way] + " 1;", 1), -1);
        }
        for (String word : new String[] {"nord", "up", "ever", "x", "stil", "wests"}) {
            Texts.parish("wind |" + word + " 1 1;", 1);
            Texts.roll("blows |" + word + " 1;", 1);
        }
    }

    // "NAME: a WORD, none of those told here, in a ROLL or a SENTENCE"
    private static void namesReserved() {
        for (String word : RESERVED) {
            Texts.parish("owner |" + word + ";", 1);
            Texts.parish("strip |" + word + " 0 0 1 1;", 1);
            Texts.parish("kind |" + word + " 1 1;", 1);
            Texts.parish("field |" + word + " 0 0 1 1;", 1);
            Texts.parish("tree |" + word + " 0 0;", 1);
            Texts.roll("plants |" + word + " 0 0;", 1);
            Texts.sentence("of |" + word, 1);
            Texts.sentence("for |" + word, 1);
            Texts.sentence("by |" + word, 1);
            if (word.length() < 7) {
                Texts.parishStands("owner " + word + "q;", 1);
            }
        }
        for (String word : new String[] {"line", "name", "loud", "chance", "way", "force", "done", "one", "all", "cond", "sign"}) {
            Texts.parishStands("owner " + word + ";", 1);
        }
    }

    // "told once"
    private static void namesOnce() {
        String[] first = {"owner q;", "strip q 0 0 1 1;", "kind q 1 1;"};
        String[] second = {"owner ", "strip ", "kind "};
        String[] rest = {";", " 1 0 1 1;", " 1 1;"};
        for (String told : first) {
            for (int n = 0; n < 3; n++) {
                Texts.parish(told + second[n] + "|q" + rest[n], 3);
                Texts.parishStands(told + second[n] + "p" + rest[n], 2);
            }
        }
    }

    // "a NAME .. not told, or of another sort"
    private static void namesNotTold() {
        String told = "owner a;strip s 5 5 1 1;kind k 1 1;";
        for (String name : new String[] {"s", "k", "b"}) {
            Texts.parish(told + "field |" + name + " 0 0 1 1;", 3);
        }
        for (String name : new String[] {"a", "s", "b"}) {
            Texts.parish(told + "tree |" + name + " 0 0;", 3);
        }
        Texts.parish("field |a 0 0 1 1;owner a;", 3);
        Texts.parish("tree |k 0 0;kind k 1 1;", 3);
        for (String name : new String[] {"ann", "mid", "elm"}) {
            Texts.roll("plants |" + name + " 0 0;", 3);
            Texts.sentence("of |" + name, 3);
        }
        for (String name : new String[] {"oak", "mid", "cy"}) {
            Texts.sentence("for |" + name, 3);
        }
        for (String name : new String[] {"oak", "ann", "low"}) {
            Texts.sentence("by |" + name, 3);
        }
        // What another text told is not told here.
        LeafVotes x = Due.of("owner a;kind k 1 1;");
        Due.due("a name of the old parish", Due.parish(x, "field a 0 0 1 1;"), -1 - 6);
        Due.due("a name of a text with a fault", Due.parish(x, "owner b;;"), -1 - 8);
        Due.due("it is not told then", Due.sentence(x, "for b"), -1 - 4);
        Due.due("the old one is", Due.sentence(x, "for a"), 1);
    }

    /** So many lines of one sort, each in a cell or with a name or wind of its own. */
    private static String lines(String sort, int many) {
        StringBuilder text = new StringBuilder();
        for (int n = 0; n < many; n++) {
            String cell = n % 5 + " " + n / 5;
            char name = (char) ('a' + n);
            text.append(switch (sort) {
                case "owner" -> "owner o" + name;
                case "field" -> "field oa " + cell + " 1 1";
                case "strip" -> "strip s" + name + " " + n + " 5 1 1";
                case "kind" -> "kind k" + name + " 12 9";
                case "tree" -> "tree ka " + cell;
                case "wall" -> "wall " + cell;
                default -> "wind " + WAYS[n / 4] + " " + (1 + n % 4) + " 9";
            }).append(';');
        }
        return text.toString();
    }

    // "4 OWNERS, 8 fields, 3 STRIPS, 5 KINDS, 14 trees, 10 walls, 8 winds at most"
    private static void atMost() {
        limit("owner", "", 4, 2);
        limit("field", "owner oa;", 8, -1);
        limit("strip", "", 3, 3);
        limit("kind", "", 5, 4);
        limit("tree", "kind ka 1 1;", 14, 5);
        limit("wind", "", 8, 6);
        limit("wall", "", 10, -1);
        Due.due("ten walls", Due.of(lines("wall", 10)).now(2), 10);
    }

    private static void limit(String sort, String head, int most, int counted) {
        int more = head.isEmpty() ? 0 : 1;
        for (int many = most - 1; many <= most; many++) {
            LeafVotes x = Texts.parishStands(head + lines(sort, many), many + more);
            if (counted >= 0) {
                Due.due("count of " + sort, x.count(counted), many);
            }
        }
        String full = head + lines(sort, most);
        fault(Sort.PARISH, head + lines(sort, most + 1), full.length(), 4);
        // The line's first word is ahead of all that is wrong in the line.
        fault(Sort.PARISH, full + sort, full.length(), 4);
        fault(Sort.PARISH, full + sort + " 99;", full.length(), 4);
        fault(Sort.PARISH, full + sort + " ...", full.length(), 4);
    }

    /** Every sort at its most, in one text. */
    private static void allAtMost() {
        StringBuilder text = new StringBuilder("size 10 10;");
        for (char o = 'a'; o <= 'd'; o++) {
            text.append("owner ").append(o).append(';');
        }
        for (int n = 0; n < 8; n++) {
            text.append("field " + (char) ('a' + n % 4) + " " + n + " 0 1 10;");
        }
        text.append("strip p 8 0 2 3;strip q 8 3 2 3;strip r 8 6 2 4;");
        for (int n = 0; n < 5; n++) {
            text.append("kind k" + (char) ('a' + n) + " 12 9;");
        }
        for (int n = 0; n < 14; n++) {
            text.append("tree k" + (char) ('a' + n % 5) + " " + n % 10 + " " + n / 10 + ";");
        }
        for (int n = 0; n < 10; n++) {
            text.append("wall " + n + " 9;");
        }
        text.append(lines("wind", 8));
        LeafVotes x = Texts.parishStands(text.toString(), 1 + 4 + 8 + 3 + 5 + 14 + 10 + 8);
        int[] want = {10, 10, 4, 3, 5, 14, 8, 0};
        for (int what = 0; what < 8; what++) {
            Due.due("count of the fullest: " + what, x.count(what), want[what]);
        }
        Due.due("walls of the fullest", x.now(2), 10);
        Due.due("leaves of the fullest", x.now(4), 168);
        Due.due("trees of the fullest", x.now(1), (1 << 14) - 1);
        Due.due("cells of the first", x.owner(0, 0), 20);
        Due.due("cells of the last strip", x.strip(2, 0), 8);
        Due.due("below of the fullest", x.likely(0, 0, 1) > 0, true);
        Due.due("no more trees", x.plant(0, 5, 5), 2);
        Due.due("no more walls", x.wall(5, 5), 2);
    }

    // "OWNERS, STRIPS, KINDS, TREES, winds numbered from 0 each"
    private static void numberedFromZero() {
        LeafVotes x = Due.of("kind k 1 1;owner a;strip s 0 0 1 1;owner b;strip t 1 0 2 1;kind l 2 2;tree l 5 5;tree k 4 4;"
            + "field b 3 3 1 1;field a 2 2 1 2;");
        Due.due("owner 0 is a", x.cell(2, 3, 0), 0);
        Due.due("owner 1 is b", x.cell(3, 3, 0), 1);
        Due.due("strip 0 is s", x.cell(0, 0, 1), 0);
        Due.due("strip 1 is t", x.cell(2, 0, 1), 1);
        Due.due("tree 0 is of kind 1", x.tree(0, 0), 1);
        Due.due("tree 1 is of kind 0", x.tree(1, 0), 0);
        Due.due("tree 0 is there", x.cell(5, 5, 2), 0);
        // By their names, in a sentence and in a roll.
        LeafVotes y = Due.of("size 9 1;strip p 0 0 1 1;strip q 4 0 1 1;strip r 8 0 1 1;kind k 1 1;kind l 1 1;kind m 1 1;kind n 1 1;kind o 1 1;"
            + "tree k 0 0;tree l 3 0;tree m 5 0;tree n 8 0;");
        String[] said = {"by p", "by q", "by r", "of k", "of l", "of m", "of n", "of o"};
        int[] many = {1, 2, 1, 1, 1, 1, 1, 0};
        int[] first = {0, 1, 3, 0, 1, 2, 3, -1};
        for (int n = 0; n < said.length; n++) {
            Due.due("a sentence: " + said[n], Due.sentence(y, said[n]), 1);
            Due.due("how many: " + said[n], y.said(-1), many[n]);
            Due.due("the first: " + said[n], y.said(0), first[n]);
        }
        Due.due("a roll of the last kind", Due.roll(y, "plants o 1 0;", 1), -1);
        Due.due("it is of that kind", y.tree(4, 0), 4);
    }

    // "A ROLL is a text of at most 400 bytes"
    private static void rollOf400() {
        Texts.rollStands(Texts.blanks("rakes 1 1;", 400));
        fault(Sort.ROLL, Texts.blanks("rakes 1 1;", 401), 400, 1);
        fault(Sort.ROLL, Texts.blanks("rakes 1 1;", 940), 400, 1);
        Texts.rollStands(" ".repeat(390) + "rakes 1 1;");
        fault(Sort.ROLL, " ".repeat(391) + "rakes 1 1;", 400, 1);
        Texts.rollStands(" ".repeat(400));
        fault(Sort.ROLL, " ".repeat(401), 400, 1);
    }

    // "{ LINE ; }, 40 at most"
    private static void rollOf40Lines() {
        Texts.rollStands("fells 0;".repeat(39));
        Texts.rollStands("fells 0;".repeat(40));
        Texts.roll("fells 0;".repeat(40) + "|fells 0;", 4);
        Texts.roll("fells 0;".repeat(40) + "|fells 0;fells 0;", 4);
        LeafVotes x = Due.of("size 10 10;");
        StringBuilder rakes = new StringBuilder();
        for (int n = 0; n < 40; n++) {
            rakes.append("rakes " + n % 10 + " " + n / 10 + ";");
        }
        Due.due("40 lines of 400 bytes", rakes.length(), 400);
        Due.due("40 lines that are lived", Due.roll(x, rakes.toString(), 1), -1);
        Due.due("40 lines are not wrong", x.rolled(1), 40);
        Due.due("40 cells are raked", x.now(3), 40);
    }

    // "'blows' WAY FORCE | 'plants' KIND X Y | 'fells' N (0 to 13) | 'walls' X Y | 'rakes' X Y"
    private static void rollNumbers() {
        for (String way : WAYS) {
            numbers(Sort.ROLL, "blows " + way + " ", 1, 4, ";");
        }
        numbers(Sort.ROLL, "fells ", 0, 13, ";");
        for (String what : new String[] {"plants oak ", "walls ", "rakes "}) {
            numbers(Sort.ROLL, what, 0, 5, " 0;");
            numbers(Sort.ROLL, what + "0 ", 0, 5, ";");
        }
        LeafVotes x = Due.of("size 9 2;");
        Due.due("x of a wider parish", Due.roll(x, "rakes 8 1;", 0), -1);
        Due.due("x beyond it", Due.roll(x, "rakes 9 1;", 0), -2 - 6);
        Due.due("y beyond it", Due.roll(x, "rakes 8 2;", 0), -2 - 8);
    }

    // "A SENTENCE is a text of at most 200 bytes"
    private static void sentenceOf200() {
        Texts.sentenceStands(Texts.blanks("alive", 200), 1);
        fault(Sort.SENTENCE, Texts.blanks("alive", 201), 200, 1);
        fault(Sort.SENTENCE, Texts.blanks("alive", 940), 200, 1);
        Texts.sentenceStands(" ".repeat(195) + "alive", 1);
        fault(Sort.SENTENCE, " ".repeat(196) + "alive", 200, 1);
        fault(Sort.SENTENCE, "", 0, 1);
        fault(Sort.SENTENCE, " ".repeat(200), 200, 1);
        fault(Sort.SENTENCE, " ".repeat(201), 200, 1);
    }

    // "20 ONES"
    private static void twentyOnes() {
        Texts.sentenceStands("ever or ".repeat(18) + "ever", 19);
        Texts.sentenceStands("ever or ".repeat(19) + "ever", 20);
        Texts.sentence("ever or ".repeat(20) + "|ever", 4);
        Texts.sentenceStands("ever and ".repeat(19) + "ever", 20);
        Texts.sentence("ever and ".repeat(20) + "|ever", 4);
        // Each not, bracket and other one counts.
        Texts.sentenceStands("(not ever) and ".repeat(6) + "not ever", 20);
        Texts.sentence("(not ever) and ".repeat(6) + "(not |ever)", 4);
        Texts.sentence("(not ever) and ".repeat(6) + "not not |ever", 4);
        Texts.sentence("(not ever) and ".repeat(6) + "ever and ever and |(ever)", 4);
        Texts.sentence("(not ever) and ".repeat(6) + "ever and ever and |not ever", 4);
    }

    // "8 within one another"
    private static void eightWithin() {
        for (int n = 0; n < 7; n++) {
            Texts.sentenceStands("(".repeat(n) + "alive" + ")".repeat(n), n + 1);
            Texts.sentenceStands("not ".repeat(n) + "alive", n + 1);
        }
        Texts.sentenceStands("(((((((x = 1)))))))", 8);
        Texts.sentence("((((((((|x = 1))))))))", 4);
        Texts.sentenceStands("not(not(not(not x = 1)))", 8);
        Texts.sentence("not(not(not(not(|x = 1))))", 4);
        Texts.sentence("(((((((alive and (|alive))))))))", 4);
        Texts.sentence("(((((((alive and not |alive)))))))", 4);
        Texts.sentence("((((((((|(alive)))))))))", 4);
        // As deep again, once those ahead are closed.
        Texts.sentenceStands("((((((alive)))))) and not not not not not not not alive", 15);
        Texts.sentenceStands("(((((((alive))))))) or alive and (alive)", 11);
    }

    // "( 'x' | 'y' | 'leaves' | 'number' ) SIGN NUMBER"
    private static void sentenceNumbers() {
        for (String word : new String[] {"x", "y", "leaves", "number"}) {
            for (String sign : new String[] {"<", "=", ">"}) {
                for (int n = 0; n < 100; n += 33) {
                    Texts.sentenceStands(word + sign + n, 1);
                }
                Texts.sentence(word + sign + "|100", 1);
                Texts.sentence(word + sign + "|x", 1);
            }
            Texts.sentence(word + "|", 1);
            Texts.sentence(word + " |1", 1);
        }
        LeafVotes x = Due.of("size 10 10;kind k 12 1;tree k 9 8;");
        String[] told = {"x>8", "x=9", "x<10", "y>7", "y=8", "y<9", "leaves>11", "leaves=12", "leaves<13", "number=0", "number<1"};
        for (String text : told) {
            Due.due("a sentence: " + text, Due.sentence(x, text), 1);
            Due.due("it may be said: " + text, x.said(-1), 1);
        }
        String[] not = {"x>9", "x<9", "y>8", "y<8", "leaves>12", "leaves<12", "number>0", "number<0", "number=1"};
        for (String text : not) {
            Due.due("a sentence: " + text, Due.sentence(x, text), 1);
            Due.due("it may not be said: " + text, x.said(-1), 0);
        }
    }

    // "FAULTS, the first along the text"
    private static void firstAlongTheText() {
        Texts.parish("owner a;owner |a;size 0 1;.", 3);
        Texts.parish("size |0 11;owner a;owner a;", 2);
        Texts.parish("owner a;|;owner a;", 1);
        Texts.parish("owner a;owner b;owner c;owner d;|owner a;owner a;", 4);
        Texts.parish("strip s |6 6 0 0;", 2);
        Texts.parish("field |a 9 9 9 9;", 3);
        Texts.roll("plants |elm 9 9;", 3);
        Texts.roll("rakes |9 9;.", 2);
        Texts.sentence("of |elm and and", 3);
        Texts.sentence("for ann and |and of elm", 1);
    }

    // "of one TOKEN the least"
    private static void leastOfOneToken() {
        Texts.roll("fells 0;".repeat(40) + "|fell 0;", 1);
        Texts.roll("fells 0;".repeat(40) + "|;", 1);
        Texts.roll("fells 0;".repeat(40) + "|abcdefgh", 1);
        Texts.sentence("ever or ".repeat(20) + "|or", 1);
        Texts.sentence("ever or ".repeat(20) + "|abcdefgh", 1);
        Texts.sentence("((((((((|)", 1);
        Texts.sentence("((((((((|oak", 1);
        Texts.parish("strip s 0 0 2 2;strip r 1 1 1 |9;", 2);
        Texts.parish("strip s 0 0 2 2;strip r 1 1 1 |0;", 2);
        Texts.parish("kind k 1 1;tree k 0 0;tree k 0 |6;", 2);
        Texts.parish("wind east 1 1;wind east |5 1;", 2);
    }

    // "at it; the end: how many bytes there are"
    private static void atTheEnd() {
        String line = "strip s 0 0 1 1 ";
        for (int n = 1; n < line.length(); n++) {
            String text = line.substring(0, n);
            if (text.endsWith("strip") || n > 5) {
                fault(Sort.PARISH, text, n, 1);
                fault(Sort.PARISH, Texts.blanks(text, 900), 900, 1);
            } else {
                fault(Sort.PARISH, text, 0, 1);
            }
        }
        Texts.roll("plants|", 1);
        Texts.roll("plants \n |", 1);
        Texts.roll("plants oak 0 0|", 1);
        Texts.sentence("not|", 1);
        Texts.sentence("alive and  |", 1);
        Texts.sentence("x <|", 1);
        Texts.sentence("(alive|", 1);
        Texts.sentence("((alive) |", 1);
    }

    // "the most bytes told, if there are more and no FAULT is ahead"
    private static void mostBytes() {
        fault(Sort.PARISH, Texts.blanks("owner a;", 940), 900, 1);
        fault(Sort.PARISH, Texts.blanks("owner a;owner a;", 940), 14, 3);
        fault(Sort.PARISH, Texts.blanks("size 0 0;", 940), 5, 2);
        fault(Sort.PARISH, Texts.blanks("owner a;", 899) + ".........", 899, 1);
        fault(Sort.PARISH, Texts.blanks("owner a;", 900) + ".........", 900, 1);
        // What begins at the most bytes told is not read: it would be another fault.
        fault(Sort.PARISH, Texts.blanks("size 1 1;", 899) + "size 1 1;", 899, 3);
        fault(Sort.PARISH, Texts.blanks("size 1 1;", 900) + "size 1 1;", 900, 1);
        fault(Sort.PARISH, Texts.blanks("size", 899) + "0", 899, 2);
        fault(Sort.PARISH, Texts.blanks("size", 900) + "0", 900, 1);
        fault(Sort.ROLL, Texts.blanks("fells", 399) + "99;", 399, 2);
        fault(Sort.ROLL, Texts.blanks("fells", 400) + "99;", 400, 1);
        fault(Sort.SENTENCE, Texts.blanks("of", 199) + "elm", 199, 3);
        fault(Sort.SENTENCE, Texts.blanks("of", 200) + "elm", 200, 1);
        fault(Sort.PARISH, Texts.blanks("owner a", 901), 900, 1);
        fault(Sort.PARISH, Texts.blanks("owner a;", 920) + "owner a;", 900, 1);
        fault(Sort.ROLL, Texts.blanks("rakes 0 0;rakes", 930) + "9 9;", 400, 1);
        fault(Sort.ROLL, Texts.blanks("rakes 0 9;", 930), 8, 2);
        fault(Sort.SENTENCE, Texts.blanks("alive and", 300) + "alive", 200, 1);
        fault(Sort.SENTENCE, Texts.blanks("of elm", 300), 3, 3);
    }

    // "TOKENS that begin ahead of it are read whole"
    private static void readWhole() {
        // A word across the 900th byte: told twice only if it is read whole, or only if it is cut.
        fault(Sort.PARISH, Texts.blanks("owner ab;owner", 899) + "ab;", 899, 3);
        fault(Sort.PARISH, Texts.blanks("owner a;owner", 899) + "ab;", 900, 1);
        fault(Sort.PARISH, Texts.blanks("owner a;owner", 899) + "abcdefg;", 900, 1);
        fault(Sort.PARISH, Texts.blanks("owner a;owner", 899) + "abcdefgh;", 899, 1);
        fault(Sort.PARISH, Texts.blanks("size", 899) + "10 1;", 900, 1);
        fault(Sort.PARISH, Texts.blanks("size", 899) + "11 1;", 899, 2);
        fault(Sort.PARISH, Texts.blanks("size", 899) + "100 1;", 899, 1);
        fault(Sort.PARISH, Texts.blanks("", 899) + "size 1 1;", 900, 1);
        fault(Sort.PARISH, Texts.blanks("", 900) + "sizes", 900, 1);
        fault(Sort.ROLL, Texts.blanks("fells", 399) + "13;", 400, 1);
        fault(Sort.ROLL, Texts.blanks("fells", 399) + "14;", 399, 2);
        fault(Sort.SENTENCE, Texts.blanks("", 199) + "alive", 200, 1);
        fault(Sort.SENTENCE, Texts.blanks("", 199) + "alives", 199, 1);
        fault(Sort.SENTENCE, Texts.blanks("of", 199) + "oak", 200, 1);
        fault(Sort.SENTENCE, Texts.blanks("of", 199) + "oaks", 199, 3);
    }

    // "2 a NUMBER that is not as told (at it; of a field, strip: X, Y, WIDE, HIGH in turn)"
    private static void inTurn() {
        for (String what : new String[] {"strip s", "owner s;field s"}) {
            Texts.parish(what + " |6 6 0 0;", 2);
            Texts.parish(what + " 5 |6 0 0;", 2);
            Texts.parish(what + " 5 5 |0 0;", 2);
            Texts.parish(what + " 5 5 |2 2;", 2);
            Texts.parish(what + " 5 5 1 |0;", 2);
            Texts.parish(what + " 5 5 1 |2;", 2);
            Texts.parish(what + " 5 5 |2 .", 2);
            Texts.parish(what + " 5 |9", 2);
        }
    }

    // "'size' told again, or behind one of those (at it)"
    private static void sizeAgain() {
        Texts.parish("size 3 3;|size 0 0;", 3);
        Texts.parish("size 3 3;|size .", 3);
        Texts.parish("wall 0 0;|size", 3);
    }

    // "a cell that is had (at the NUMBER told last of it)"
    private static void cellThatIsHad() {
        Texts.parish("strip s 0 0 1 1;strip r 0 0 1 |1;", 3);
        Texts.parish("strip s 0 0 1 1;strip r 0 0 1 |1.", 3);
        Texts.parish("strip s 0 0 1 1;strip r 0 0 1|", 1);
        Texts.parish("wall 2 2;wall 2 |2", 3);
        Texts.parish("wall 2 2;wall 2|;", 1);
        Texts.parish("kind k 1 1;wall 2 2;tree k 2 |02;", 3);
    }

    // "a WAY told again with its FORCE (at FORCE)"
    private static void wayAgain() {
        Texts.parish("wind west 4 1;wind west |4 1;", 3);
        Texts.parish("wind west 4 1;wind west |4 0;", 3);
        Texts.parish("wind west 4 1;wind west |04", 3);
        Texts.parish("wind west 4 1;wind west |0 1;", 2);
        Texts.parish("wind west 4 1;wind |wests 4 1;", 1);
    }

    // "4 one more than there may be of a sort, a 41st LINE of a ROLL (at the LINE's first WORD), a 21st ONE, a ninth within
    // (at its first TOKEN)"
    private static void oneMore() {
        String owners = "owner a;owner b;owner c;owner d;";
        Texts.parish(owners + "|owner e;", 4);
        Texts.parish(owners + "  |owner a;", 4);
        Texts.parish(owners + "|owner", 4);
        Texts.parishStands(owners + "kind e 1 1;strip f 0 0 1 1;", 6);
        Texts.roll("fells 0;".repeat(40) + " |rakes 9 9;", 4);
        Texts.roll("fells 0;".repeat(40) + " |rakes", 4);
        Texts.sentence("ever or ".repeat(20) + " |of elm", 4);
        Texts.sentence("ever or ".repeat(20) + " |x", 4);
        Texts.sentence("not not not not not not not not |for cy", 4);
        Texts.sentence("not not not not not not not not |(", 4);
    }
}
