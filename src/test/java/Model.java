import java.util.ArrayDeque;
import java.util.ArrayList;
import java.util.Arrays;
import java.util.HashSet;
import java.util.List;
import java.util.NoSuchElementException;
import java.util.Set;

/** A plain model of the document: it goes leaf by leaf, copies whole states, and tries everything out. */
final class Model {
    static final int NONE = -1;
    static final Set<String> TOLD = new HashSet<>(Arrays.asList(
        "size", "owner", "field", "strip", "kind", "ever", "tree", "wall", "wind", "still", "north", "east", "south",
        "west", "blows", "plants", "fells", "walls", "rakes", "or", "and", "not", "alive", "of", "for", "by", "x", "y",
        "leaves", "number"));
    static final List<String> WAYS = Arrays.asList("still", "north", "east", "south", "west");

    record Rect(int owner, int x, int y, int wide, int high) {
        boolean has(int cx, int cy) {
            return cx >= x && cx < x + wide && cy >= y && cy < y + high;
        }
    }

    record Kind(int leaves, int loud, boolean ever) {
    }

    record Wind(int way, int force, int chance) {
    }

    static final class Tree {
        int kind;
        int x;
        int y;
        boolean told;
        int age;
        boolean alive = true;
        int voted = NONE;

        Tree copy() {
            Tree t = new Tree();
            t.kind = kind;
            t.x = x;
            t.y = y;
            t.told = told;
            t.age = age;
            t.alive = alive;
            t.voted = voted;
            return t;
        }
    }

    /** The parish and all that is so in it. */
    static final class State {
        int wide = 6;
        int high = 6;
        boolean sized;
        List<String> owners = new ArrayList<>();
        List<Rect> fields = new ArrayList<>();
        List<String> stripNames = new ArrayList<>();
        List<Rect> strips = new ArrayList<>();
        List<String> kindNames = new ArrayList<>();
        List<Kind> kinds = new ArrayList<>();
        List<Wind> winds = new ArrayList<>();
        List<Tree> trees = new ArrayList<>();
        Set<Integer> walls = new HashSet<>();
        Set<Integer> raked = new HashSet<>();
        int[] holder = {-1, -1, -1};
        int[] changed = {0, 0, 0};
        int[] sack = {0, 0, 0, 0};
        int[] sacks = {0, 0, 0, 0};
        int year;
        int lost = NONE;

        State copy() {
            State s = new State();
            s.wide = wide;
            s.high = high;
            s.sized = sized;
            s.owners = new ArrayList<>(owners);
            s.fields = new ArrayList<>(fields);
            s.stripNames = new ArrayList<>(stripNames);
            s.strips = new ArrayList<>(strips);
            s.kindNames = new ArrayList<>(kindNames);
            s.kinds = new ArrayList<>(kinds);
            s.winds = new ArrayList<>(winds);
            for (Tree t : trees) {
                s.trees.add(t.copy());
            }
            s.walls = new HashSet<>(walls);
            s.raked = new HashSet<>(raked);
            s.holder = holder.clone();
            s.changed = changed.clone();
            s.sack = sack.clone();
            s.sacks = sacks.clone();
            s.year = year;
            s.lost = lost;
            return s;
        }

        int leaves(Tree t) {
            if (!t.alive) {
                return 0;
            }
            int full = kinds.get(t.kind).leaves();
            return t.told ? full : Math.min(full, 1 + t.age);
        }

        int ownerOf(int x, int y) {
            for (Rect f : fields) {
                if (f.has(x, y)) {
                    return f.owner();
                }
            }
            int s = stripOf(x, y);
            return s == NONE ? NONE : holder[s];
        }

        int stripOf(int x, int y) {
            for (int s = 0; s < strips.size(); s++) {
                if (strips.get(s).has(x, y)) {
                    return s;
                }
            }
            return NONE;
        }

        int treeAt(int x, int y) {
            for (int t = 0; t < trees.size(); t++) {
                Tree tree = trees.get(t);
                if (tree.alive && tree.x == x && tree.y == y) {
                    return t;
                }
            }
            return NONE;
        }

        boolean say(int t, int s) {
            Tree tree = trees.get(t);
            if (!tree.alive) {
                return false;
            }
            for (int x = tree.x - 2; x <= tree.x + 2; x++) {
                for (int y = tree.y - 2; y <= tree.y + 2; y++) {
                    if (strips.get(s).has(x, y)) {
                        return true;
                    }
                }
            }
            return false;
        }

        /** Where leaf k of a tree lies: {x, y}; null: it is lost. */
        int[] lies(Tree t, int k, int way, int force) {
            int x = t.x;
            int y = t.y;
            int steps = way == 0 ? 0 : k % (force + 1);
            for (int i = 0; i < steps; i++) {
                int nx = x + (way == 2 ? 1 : way == 4 ? -1 : 0);
                int ny = y + (way == 3 ? 1 : way == 1 ? -1 : 0);
                if (nx < 0 || ny < 0 || nx >= wide || ny >= high) {
                    return null;
                }
                if (walls.contains(ny * 10 + nx)) {
                    break;
                }
                x = nx;
                y = ny;
            }
            return new int[] {x, y};
        }

        int leavesIn(int x, int y, int way, int force) {
            int n = 0;
            for (Tree t : trees) {
                for (int k = 0; k < leaves(t); k++) {
                    int[] at = lies(t, k, way, force);
                    if (at != null && at[0] == x && at[1] == y) {
                        n++;
                    }
                }
            }
            return n;
        }

        int vote(int t, int s, int way, int force) {
            Tree tree = trees.get(t);
            if (!say(t, s) || kinds.get(tree.kind).ever()) {
                return NONE;
            }
            int[] by = new int[owners.size()];
            for (int k = 0; k < leaves(tree); k++) {
                int[] at = lies(tree, k, way, force);
                if (at == null || raked.contains(at[1] * 10 + at[0]) || stripOf(at[0], at[1]) == s) {
                    continue;
                }
                int o = ownerOf(at[0], at[1]);
                if (o != NONE) {
                    by[o]++;
                }
            }
            return most(by);
        }

        static int most(int[] by) {
            int max = Arrays.stream(by).max().orElse(0);
            if (max == 0 || Arrays.stream(by).filter(n -> n == max).count() != 1) {
                return NONE;
            }
            for (int o = 0; o < by.length; o++) {
                if (by[o] == max) {
                    return o;
                }
            }
            return NONE;
        }

        int[] voices(int s, int way, int force, int without) {
            int[] by = new int[owners.size()];
            for (int t = 0; t < trees.size(); t++) {
                int v = t == without ? NONE : vote(t, s, way, force);
                if (v != NONE) {
                    by[v] += kinds.get(trees.get(t).kind).loud();
                }
            }
            return by;
        }

        int goes(int s, int way, int force) {
            return goes(s, way, force, NONE);
        }

        int goes(int s, int way, int force, int without) {
            int v = most(voices(s, way, force, without));
            return v == NONE ? holder[s] : v;
        }

        int sack(int o, int way, int force) {
            int n = 0;
            for (int y = 0; y < high; y++) {
                for (int x = 0; x < wide; x++) {
                    if (ownerOf(x, y) == o && !raked.contains(y * 10 + x)) {
                        n += leavesIn(x, y, way, force);
                    }
                }
            }
            return n;
        }

        int chances(int o, int s) {
            int n = 0;
            for (Wind w : winds) {
                if (goes(s, w.way(), w.force()) == o) {
                    n += w.chance();
                }
            }
            return n;
        }

        int blow(int way, int force) {
            if (year == 199) {
                return 1;
            }
            State was = copy();
            lost = 0;
            for (Tree t : was.trees) {
                for (int k = 0; k < was.leaves(t); k++) {
                    if (was.lies(t, k, way, force) == null) {
                        lost++;
                    }
                }
            }
            for (int o = 0; o < owners.size(); o++) {
                sack[o] = was.sack(o, way, force);
                sacks[o] += sack[o];
            }
            for (int s = 0; s < strips.size(); s++) {
                holder[s] = was.goes(s, way, force);
                changed[s] += holder[s] == was.holder[s] ? 0 : 1;
            }
            for (int t = 0; t < trees.size(); t++) {
                trees.get(t).voted = NONE;
                for (int s = 0; s < strips.size(); s++) {
                    if (was.say(t, s)) {
                        trees.get(t).voted = was.vote(t, s, way, force);
                        break;
                    }
                }
                trees.get(t).age++;
            }
            raked.clear();
            year++;
            return 0;
        }

        int plant(int kind, int x, int y) {
            if (treeAt(x, y) != NONE || walls.contains(y * 10 + x)) {
                return 1;
            }
            if (trees.size() == 14) {
                return 2;
            }
            Tree t = new Tree();
            t.kind = kind;
            t.x = x;
            t.y = y;
            trees.add(t);
            return 0;
        }

        int fell(int t) {
            if (!trees.get(t).alive) {
                return 1;
            }
            trees.get(t).alive = false;
            return 0;
        }

        int wall(int x, int y) {
            if (treeAt(x, y) != NONE || walls.contains(y * 10 + x)) {
                return 1;
            }
            if (walls.size() == 10) {
                return 2;
            }
            walls.add(y * 10 + x);
            return 0;
        }

        int rake(int x, int y) {
            return raked.add(y * 10 + x) ? 0 : 1;
        }

        int draw(int n, int x) {
            int done = 0;
            int all = winds.stream().mapToInt(Wind::chance).sum();
            while (done < n && year < 199) {
                x = x * 1103515245 + 12345;
                if ((x >>> 8) % 3 == 0) {
                    x = x * 1103515245 + 12345;
                    int c = (x >>> 8) % (wide * high);
                    rake(c % wide, c / wide);
                }
                x = x * 1103515245 + 12345;
                int pick = (x >>> 8) % all;
                List<Wind> each = new ArrayList<>();
                for (Wind w : winds) {
                    for (int i = 0; i < w.chance(); i++) {
                        each.add(w);
                    }
                }
                blow(each.get(pick).way(), each.get(pick).force());
                done++;
            }
            return done;
        }
    }

    // ---- texts

    static final class Fault extends RuntimeException {
        final int kind;
        final int place;

        Fault(int kind, int place) {
            super(null, null, false, false);
            this.kind = kind;
            this.place = place;
        }
    }

    record Token(String text, int place) {
        boolean isNumber() {
            return text.matches("[0-9]{1,2}");
        }

        boolean isWord() {
            return text.matches("[a-z]{1,7}");
        }

        boolean isName() {
            return isWord() && !TOLD.contains(text);
        }

        boolean isEnd() {
            return text.isEmpty();
        }
    }

    /** Tokens are cut lazily, so that a fault ahead of a bad one is found first. */
    static final class Lexer {
        final String text;
        final int most;
        int next;

        Lexer(String text, int most) {
            this.text = text;
            this.most = most;
        }

        Token peek() {
            int was = next;
            Token t = take();
            next = was;
            return t;
        }

        Token take() {
            int from = next;
            while (from < text.length() && (text.charAt(from) == ' ' || text.charAt(from) == '\n')) {
                from++;
            }
            if (text.length() > most && from >= most) {
                throw new Fault(1, most);
            }
            if (from == text.length()) {
                next = from;
                return new Token("", from);
            }
            int to = from;
            while (to < text.length() && String.valueOf(text.charAt(to)).matches("[a-z0-9]")) {
                to++;
            }
            if (to == from) {
                to++;
            }
            String cut = text.substring(from, to);
            if (!cut.matches("[a-z]{1,7}|[0-9]{1,2}|[;<=>()]")) {
                throw new Fault(1, from);
            }
            next = to;
            return new Token(cut, from);
        }

        void need(String want) {
            Token t = take();
            if (!t.text().equals(want)) {
                throw new Fault(1, t.place());
            }
        }

        int number(int low, int high) {
            Token t = take();
            if (!t.isNumber()) {
                throw new Fault(1, t.place());
            }
            int n = Integer.parseInt(t.text());
            if (n < low || n > high) {
                throw new Fault(2, t.place());
            }
            lastPlace = t.place();
            return n;
        }

        int lastPlace;

        int way() {
            Token t = take();
            if (!WAYS.contains(t.text())) {
                throw new Fault(1, t.place());
            }
            return WAYS.indexOf(t.text());
        }

        int nameOf(List<String> names) {
            Token t = take();
            if (!t.isName()) {
                throw new Fault(1, t.place());
            }
            if (!names.contains(t.text())) {
                throw new Fault(3, t.place());
            }
            return names.indexOf(t.text());
        }
    }

    static int parseParish(Lexer in, State s) {
        int lines = 0;
        while (true) {
            Token first = in.take();
            if (first.isEnd()) {
                return lines;
            }
            parishLine(in, s, first);
            in.need(";");
            lines++;
        }
    }

    private static String newName(Lexer in, State s) {
        Token t = in.take();
        if (!t.isName()) {
            throw new Fault(1, t.place());
        }
        if (s.owners.contains(t.text()) || s.stripNames.contains(t.text()) || s.kindNames.contains(t.text())) {
            throw new Fault(3, t.place());
        }
        return t.text();
    }

    private static Rect area(Lexer in, State s, int owner) {
        int x = in.number(0, s.wide - 1);
        int y = in.number(0, s.high - 1);
        int wide = in.number(1, s.wide - x);
        int high = in.number(1, s.high - y);
        Rect rect = new Rect(owner, x, y, wide, high);
        List<Rect> all = new ArrayList<>(s.fields);
        all.addAll(s.strips);
        for (Rect other : all) {
            for (int cy = y; cy < y + high; cy++) {
                for (int cx = x; cx < x + wide; cx++) {
                    if (other.has(cx, cy)) {
                        throw new Fault(3, in.lastPlace);
                    }
                }
            }
        }
        return rect;
    }

    private static void limit(List<?> list, int most, Token first) {
        if (list.size() == most) {
            throw new Fault(4, first.place());
        }
    }

    private static void parishLine(Lexer in, State s, Token first) {
        switch (first.text()) {
            case "size" -> {
                if (s.sized || !s.fields.isEmpty() || !s.strips.isEmpty() || !s.trees.isEmpty() || !s.walls.isEmpty()) {
                    throw new Fault(3, first.place());
                }
                s.sized = true;
                s.wide = in.number(1, 10);
                s.high = in.number(1, 10);
            }
            case "owner" -> {
                limit(s.owners, 4, first);
                s.owners.add(newName(in, s));
            }
            case "field" -> {
                limit(s.fields, 8, first);
                int o = in.nameOf(s.owners);
                s.fields.add(area(in, s, o));
            }
            case "strip" -> {
                limit(s.strips, 3, first);
                String name = newName(in, s);
                s.strips.add(area(in, s, NONE));
                s.stripNames.add(name);
            }
            case "kind" -> {
                limit(s.kinds, 5, first);
                String name = newName(in, s);
                int leaves = in.number(1, 12);
                int loud = in.number(1, 9);
                boolean ever = in.peek().text().equals("ever");
                if (ever) {
                    in.take();
                }
                s.kinds.add(new Kind(leaves, loud, ever));
                s.kindNames.add(name);
            }
            case "tree" -> {
                limit(s.trees, 14, first);
                int kind = in.nameOf(s.kindNames);
                int x = in.number(0, s.wide - 1);
                int y = in.number(0, s.high - 1);
                if (s.plant(kind, x, y) != 0) {
                    throw new Fault(3, in.lastPlace);
                }
                s.trees.get(s.trees.size() - 1).told = true;
            }
            case "wall" -> {
                limit(new ArrayList<>(s.walls), 10, first);
                int x = in.number(0, s.wide - 1);
                int y = in.number(0, s.high - 1);
                if (s.wall(x, y) != 0) {
                    throw new Fault(3, in.lastPlace);
                }
            }
            case "wind" -> {
                limit(s.winds, 8, first);
                int way = in.way();
                int force = in.number(1, 4);
                for (Wind w : s.winds) {
                    if (w.way() == way && w.force() == force) {
                        throw new Fault(3, in.lastPlace);
                    }
                }
                s.winds.add(new Wind(way, force, in.number(1, 9)));
            }
            default -> throw new Fault(1, first.place());
        }
    }

    /** A line: {what, then its numbers}. */
    static List<int[]> parseRoll(Lexer in, State s) {
        List<int[]> lines = new ArrayList<>();
        while (true) {
            Token first = in.take();
            if (first.isEnd()) {
                return lines;
            }
            int what = Arrays.asList("blows", "plants", "fells", "walls", "rakes").indexOf(first.text());
            if (what == NONE) {
                throw new Fault(1, first.place());
            }
            limit(lines, 40, first);
            if (what == 0) {
                lines.add(new int[] {0, in.way(), in.number(1, 4)});
            } else if (what == 1) {
                lines.add(new int[] {1, in.nameOf(s.kindNames), in.number(0, s.wide - 1), in.number(0, s.high - 1)});
            } else if (what == 2) {
                lines.add(new int[] {2, in.number(0, 13)});
            } else {
                lines.add(new int[] {what, in.number(0, s.wide - 1), in.number(0, s.high - 1)});
            }
            in.need(";");
        }
    }

    /** Something that may be said of a tree. */
    interface Saying {
        boolean of(State s, int t);
    }

    static final class Sentences {
        final Lexer in;
        final State s;
        int ones;

        Sentences(Lexer in, State s) {
            this.in = in;
            this.s = s;
        }

        Saying whole() {
            Saying c = cond(1);
            Token t = in.take();
            if (!t.isEnd()) {
                throw new Fault(1, t.place());
            }
            return c;
        }

        Saying cond(int depth) {
            Saying left = all(depth);
            while (in.peek().text().equals("or")) {
                in.take();
                Saying a = left;
                Saying b = all(depth);
                left = (st, t) -> a.of(st, t) || b.of(st, t);
            }
            return left;
        }

        Saying all(int depth) {
            Saying left = one(depth);
            while (in.peek().text().equals("and")) {
                in.take();
                Saying a = left;
                Saying b = one(depth);
                left = (st, t) -> a.of(st, t) && b.of(st, t);
            }
            return left;
        }

        Saying one(int depth) {
            Token first = in.take();
            if (!Arrays.asList("not", "(", "alive", "ever", "of", "for", "by", "x", "y", "leaves", "number")
                    .contains(first.text())) {
                throw new Fault(1, first.place());
            }
            ones++;
            if (ones > 20 || depth > 8) {
                throw new Fault(4, first.place());
            }
            switch (first.text()) {
                case "not": {
                    Saying a = one(depth + 1);
                    return (st, t) -> !a.of(st, t);
                }
                case "(": {
                    Saying a = cond(depth + 1);
                    in.need(")");
                    return a;
                }
                case "alive":
                    return (st, t) -> st.trees.get(t).alive;
                case "ever":
                    return (st, t) -> st.kinds.get(st.trees.get(t).kind).ever();
                case "of": {
                    int k = in.nameOf(s.kindNames);
                    return (st, t) -> st.trees.get(t).kind == k;
                }
                case "for": {
                    int o = in.nameOf(s.owners);
                    return (st, t) -> st.trees.get(t).voted == o;
                }
                case "by": {
                    int p = in.nameOf(s.stripNames);
                    return (st, t) -> st.say(t, p);
                }
                default:
                    return compared(first.text());
            }
        }

        private Saying compared(String what) {
            Token sign = in.take();
            if (!sign.text().matches("[<=>]")) {
                throw new Fault(1, sign.place());
            }
            int n = in.number(0, 99);
            return (st, t) -> {
                Tree tree = st.trees.get(t);
                int v = switch (what) {
                    case "x" -> tree.x;
                    case "y" -> tree.y;
                    case "leaves" -> st.leaves(tree);
                    default -> t;
                };
                return sign.text().equals("<") ? v < n : sign.text().equals("=") ? v == n : v > n;
            };
        }
    }

    // ---- the face

    State st = new State();
    Saying said;
    StringBuilder tape = new StringBuilder();
    int fault;
    int wind = NONE;
    int where = NONE;
    int at = NONE;
    int[] rolled;
    ArrayDeque<State> undo = new ArrayDeque<>();
    State[] imageState = new State[2];
    Saying[] imageSaid = new Saying[2];

    int feed(int... five) {
        if (tape.length() + 20 > 940) {
            return NONE;
        }
        for (int n : five) {
            for (int i = 3; i >= 0; i--) {
                tape.append((char) (n >> 8 * i & 255));
            }
        }
        return tape.length();
    }

    boolean end(int n) {
        if (n < 0 || n > tape.length()) {
            return false;
        }
        tape.setLength(n);
        return true;
    }

    private String takeTape() {
        String text = tape.toString();
        tape.setLength(0);
        return text;
    }

    int parish() {
        State next = new State();
        try {
            int lines = parseParish(new Lexer(takeTape(), 900), next);
            st = next;
            said = null;
            undo.clear();
            fault = 0;
            return lines;
        } catch (Fault f) {
            fault = f.kind;
            return -1 - f.place;
        }
    }

    int sentence() {
        try {
            Sentences parser = new Sentences(new Lexer(takeTape(), 200), st);
            said = parser.whole();
            fault = 0;
            return parser.ones;
        } catch (Fault f) {
            fault = f.kind;
            return -1 - f.place;
        }
    }

    int roll(int lives) {
        if (lives != 0 && lives != 1) {
            return -1000;
        }
        List<int[]> lines;
        try {
            lines = parseRoll(new Lexer(takeTape(), 400), st);
            fault = 0;
        } catch (Fault f) {
            fault = f.kind;
            return -2 - f.place;
        }
        State on = st.copy();
        int why = 0;
        int right = 0;
        for (int[] line : lines) {
            why = live(on, line);
            if (why != 0) {
                break;
            }
            right++;
        }
        rolled = new int[] {why, right, on.year, on.holder[0]};
        if (lives == 1) {
            push();
            st = on;
        }
        return why == 0 ? NONE : right;
    }

    private static int live(State on, int[] line) {
        int why;
        switch (line[0]) {
            case 0:
                return on.blow(line[1], line[2]);
            case 1:
                why = on.plant(line[1], line[2], line[3]);
                break;
            case 2:
                if (line[1] >= on.trees.size()) {
                    return 29;
                }
                why = on.fell(line[1]);
                break;
            case 3:
                why = on.wall(line[1], line[2]);
                break;
            default:
                why = on.rake(line[1], line[2]);
                break;
        }
        return why == 0 ? 0 : 10 * line[0] + why;
    }

    private void push() {
        undo.addLast(st.copy());
        if (undo.size() > 8) {
            undo.removeFirst();
        }
    }

    private boolean cellIs(int x, int y) {
        return x >= 0 && y >= 0 && x < st.wide && y < st.high;
    }

    private boolean in(int n, int size) {
        return n >= 0 && n < size;
    }

    private boolean windIs(int way, int force) {
        return way >= 0 && way <= 4 && force >= 1 && force <= 4;
    }

    int tree(int t, int what) {
        if (!in(t, st.trees.size()) || !in(what, 7)) {
            throw new NoSuchElementException();
        }
        Tree tree = st.trees.get(t);
        int bits = 0;
        for (int s = 0; s < st.strips.size(); s++) {
            bits += st.say(t, s) ? 1 << s : 0;
        }
        return new int[] {tree.kind, tree.x, tree.y, st.leaves(tree), st.kinds.get(tree.kind).loud(), bits, tree.voted}[what];
    }

    int cell(int x, int y, int what) {
        if (!cellIs(x, y) || !in(what, 5)) {
            throw new NoSuchElementException();
        }
        return new int[] {st.ownerOf(x, y), st.stripOf(x, y), st.treeAt(x, y),
            st.walls.contains(y * 10 + x) ? 1 : 0, st.raked.contains(y * 10 + x) ? 1 : 0}[what];
    }

    int owner(int o, int what) {
        if (!in(o, st.owners.size()) || !in(what, 4)) {
            return NONE;
        }
        int cells = 0;
        for (int c = 0; c < 100; c++) {
            cells += cellIs(c % 10, c / 10) && st.ownerOf(c % 10, c / 10) == o ? 1 : 0;
        }
        int bits = 0;
        for (int s = 0; s < st.strips.size(); s++) {
            bits += st.holder[s] == o ? 1 << s : 0;
        }
        return new int[] {cells, bits, st.year == 0 ? NONE : st.sack[o], st.sacks[o]}[what];
    }

    int strip(int s, int what) {
        if (!in(s, st.strips.size()) || !in(what, 4)) {
            return NONE;
        }
        int bits = 0;
        for (int t = 0; t < st.trees.size(); t++) {
            bits += st.say(t, s) ? 1 << t : 0;
        }
        return new int[] {st.strips.get(s).wide() * st.strips.get(s).high(), st.holder[s], bits, st.changed[s]}[what];
    }

    int now(int what) {
        int bits = 0;
        int leaves = 0;
        for (int t = 0; t < st.trees.size(); t++) {
            bits += st.trees.get(t).alive ? 1 << t : 0;
            leaves += st.leaves(st.trees.get(t));
        }
        return in(what, 6) ? new int[] {st.year, bits, st.walls.size(), st.raked.size(), leaves, st.lost}[what] : NONE;
    }

    int count(int what) {
        return in(what, 8) ? new int[] {st.wide, st.high, st.owners.size(), st.strips.size(), st.kinds.size(),
            st.trees.size(), st.winds.size(), tape.length()}[what] : NONE;
    }

    private interface Act {
        int on(State s);
    }

    private int act(boolean known, Act act) {
        if (!known) {
            return NONE;
        }
        State next = st.copy();
        int why = act.on(next);
        if (why == 0) {
            push();
            st = next;
        }
        return why;
    }

    int blow(int way, int force) {
        return act(windIs(way, force), s -> s.blow(way, force));
    }

    int plant(int kind, int x, int y) {
        return act(in(kind, st.kinds.size()) && cellIs(x, y), s -> s.plant(kind, x, y));
    }

    int fell(int t) {
        return act(in(t, st.trees.size()), s -> s.fell(t));
    }

    int wall(int x, int y) {
        return act(cellIs(x, y), s -> s.wall(x, y));
    }

    int rake(int x, int y) {
        return act(cellIs(x, y), s -> s.rake(x, y));
    }

    int undo() {
        if (undo.isEmpty()) {
            return NONE;
        }
        st = undo.removeLast();
        return undo.size();
    }

    int leaves(int x, int y, int way, int force) {
        return cellIs(x, y) && windIs(way, force) ? st.leavesIn(x, y, way, force) : NONE;
    }

    int votes(int t, int s, int way, int force) {
        return in(t, st.trees.size()) && in(s, st.strips.size()) && windIs(way, force) ? st.vote(t, s, way, force) : -2;
    }

    int voices(int o, int s, int way, int force) {
        return in(o, st.owners.size()) && in(s, st.strips.size()) && windIs(way, force)
            ? st.voices(s, way, force, NONE)[o] : NONE;
    }

    int goes(int s, int way, int force) {
        return in(s, st.strips.size()) && windIs(way, force) ? st.goes(s, way, force) : -2;
    }

    int sack(int o, int way, int force) {
        return in(o, st.owners.size()) && windIs(way, force) ? st.sack(o, way, force) : NONE;
    }

    int likely(int o, int s, int what) {
        if (!in(o, st.owners.size()) || !in(s, st.strips.size()) || !in(what, 2) || st.winds.isEmpty()) {
            throw new NoSuchElementException();
        }
        int above = st.chances(o, s);
        int below = st.winds.stream().mapToInt(Wind::chance).sum();
        for (int d = below; d > 1; d--) {
            if (above % d == 0 && below % d == 0) {
                above /= d;
                below /= d;
            }
        }
        return what == 0 ? above : below;
    }

    int decides(int s, int way, int force) {
        if (!in(s, st.strips.size()) || !windIs(way, force)) {
            return NONE;
        }
        int bits = 0;
        for (int t = 0; t < st.trees.size(); t++) {
            bits += st.goes(s, way, force, t) != st.goes(s, way, force) ? 1 << t : 0;
        }
        return bits;
    }

    private static boolean same(State s, String sacks, int way, int force) {
        for (int o = 0; o < sacks.length(); o++) {
            if (s.sack(o, way, force) != sacks.charAt(o)) {
                return false;
            }
        }
        return true;
    }

    int blew() {
        String sacks = takeTape();
        if (sacks.isEmpty() || sacks.length() != st.owners.size()) {
            return NONE;
        }
        List<Integer> found = new ArrayList<>();
        for (int way = 0; way <= 4; way++) {
            for (int force = 1; force <= (way == 0 ? 1 : 4); force++) {
                if (same(st, sacks, way, force)) {
                    found.add(10 * way + force);
                }
            }
        }
        if (!found.isEmpty()) {
            wind = found.get(0);
        }
        return found.size();
    }

    int raked(int way, int force) {
        String sacks = takeTape();
        if (sacks.isEmpty() || sacks.length() != st.owners.size() || !windIs(way, force)) {
            return NONE;
        }
        if (same(st, sacks, way, force)) {
            return 0;
        }
        List<Integer> found = new ArrayList<>();
        for (int c = 0; c < 100; c++) {
            State s = st.copy();
            if (cellIs(c % 10, c / 10) && s.rake(c % 10, c / 10) == 0 && same(s, sacks, way, force)) {
                found.add(c);
            }
        }
        if (!found.isEmpty()) {
            where = found.get(0);
        }
        return found.size();
    }

    private int best(int o, int s, Act act) {
        int best = NONE;
        for (int c = 0; c < 100; c++) {
            State trial = st.copy();
            cellTried = c;
            if (cellIs(c % 10, c / 10) && act.on(trial) == 0) {
                int chances = trial.chances(o, s);
                if (chances > best) {
                    best = chances;
                    at = c;
                }
            }
        }
        return best;
    }

    private int cellTried;

    private static int plantGrown(State s, int kind, int c, int years) {
        int why = s.plant(kind, c % 10, c / 10);
        if (why == 0) {
            s.trees.get(s.trees.size() - 1).age = years;
        }
        return why;
    }

    int bestTree(int o, int s, int kind, int years) {
        if (!in(o, st.owners.size()) || !in(s, st.strips.size()) || !in(kind, st.kinds.size()) || !in(years, 21)
            || st.winds.isEmpty()) {
            return NONE;
        }
        return best(o, s, trial -> plantGrown(trial, kind, cellTried, years));
    }

    int bestWall(int o, int s) {
        if (!in(o, st.owners.size()) || !in(s, st.strips.size()) || st.winds.isEmpty()) {
            return NONE;
        }
        return best(o, s, trial -> trial.wall(cellTried % 10, cellTried / 10));
    }

    int duel(int o, int p, int s, int kind) {
        if (!in(o, st.owners.size()) || !in(p, st.owners.size()) || o == p || !in(s, st.strips.size())
            || !in(kind, st.kinds.size()) || st.winds.isEmpty()) {
            return NONE;
        }
        int best = NONE;
        for (int c = 0; c < 100; c++) {
            State first = st.copy();
            if (!cellIs(c % 10, c / 10) || plantGrown(first, kind, c, 99) != 0) {
                continue;
            }
            int answer = NONE;
            int mine = NONE;
            for (int d = 0; d < 100; d++) {
                State second = first.copy();
                if (cellIs(d % 10, d / 10) && plantGrown(second, kind, d, 99) == 0) {
                    int chances = second.chances(p, s);
                    if (chances > answer) {
                        answer = chances;
                        mine = second.chances(o, s);
                    }
                }
            }
            if (mine > best) {
                best = mine;
                at = c;
            }
        }
        return best;
    }

    int drawn(int n, int seed) {
        if (n < 1 || n > 60 || st.winds.isEmpty()) {
            return NONE;
        }
        State next = st.copy();
        int done = next.draw(n, seed);
        if (done > 0) {
            push();
            st = next;
        }
        return done;
    }

    int odds(int o, int s, int n, int seed) {
        if (!in(o, st.owners.size()) || !in(s, st.strips.size()) || n < 1 || n > 30 || st.winds.isEmpty()) {
            return NONE;
        }
        int wins = 0;
        for (int k = 0; k < n; k++) {
            State next = st.copy();
            next.draw(5, seed + k);
            wins += next.holder[s] == o ? 1 : 0;
        }
        return wins;
    }

    int rolled(int what) {
        return rolled != null && in(what, 4) ? rolled[what] : NONE;
    }

    int said(int k) {
        if (said == null) {
            return NONE;
        }
        List<Integer> of = new ArrayList<>();
        for (int t = 0; t < st.trees.size(); t++) {
            if (said.of(st, t)) {
                of.add(t);
            }
        }
        return k == NONE ? of.size() : in(k, of.size()) ? of.get(k) : NONE;
    }

    boolean image(int k) {
        if (!in(k, 2)) {
            return false;
        }
        imageState[k] = st.copy();
        imageSaid[k] = said;
        return true;
    }

    boolean restore(int k) {
        if (!in(k, 2) || imageState[k] == null) {
            return false;
        }
        st = imageState[k].copy();
        said = imageSaid[k];
        undo.clear();
        return true;
    }
}
