import java.util.ArrayList;
import java.util.List;
import java.util.NoSuchElementException;
import java.util.Random;

/** Random runs of calls on the class and on the plain model: every answer must be alike. */
public final class ModelTest {
    private static final String[] OWNERS = {"ann", "bob", "cy", "dee"};
    private static final String[] STRIPS = {"mid", "low", "top"};
    private static final String[] KINDS = {"oak", "fir", "elm", "ash", "yew"};
    private static final String[] LETTERS = {"a", "z", "0", "9", ";", "<", "=", ">", "(", ")", " ", "\n", ".", "\0", "A",
        "or", "and", "not", "size", "ever", "12", "abcdefgh", "123", "\u00e9"};

    private final Random random;
    private final LeafVotes x = new LeafVotes();
    private final Model m = new Model();
    private final String run;
    private int calls;

    private ModelTest(long seed) {
        random = new Random(seed);
        run = "run " + seed;
    }

    public static void main(String[] args) {
        int runs = args.length > 0 ? Integer.parseInt(args[0]) : 400;
        long from = args.length > 1 ? Long.parseLong(args[1]) : 1;
        for (long seed = from; seed < from + runs; seed++) {
            new ModelTest(seed).go();
        }
        Due.close();
    }

    private void go() {
        int size = random.nextInt(3) == 0 ? 10 : 5;
        tellParish(size);
        if (m.st.owners.isEmpty()) {
            tellParish(size);
        }
        while (calls < 480) {
            step(size);
        }
    }

    private int n(int bound) {
        return random.nextInt(bound);
    }

    private String pick(String[] of) {
        return of[n(of.length)];
    }

    /** Mostly a number that there is, sometimes one beyond. */
    private int near(int size) {
        int k = n(40);
        return k == 0 ? -1 : k == 1 ? size : k == 2 ? random.nextInt() : size > 0 ? n(size) : 0;
    }

    private void check(String call, long got, long want) {
        calls++;
        Due.due(run + " call " + calls + " " + call, got, want);
    }

    private void check(String call, boolean got, boolean want) {
        check(call, got ? 1 : 0, want ? 1 : 0);
    }

    private void checkThrowing(String call, Due.Call got, Due.Call want) {
        check(call, answerOf(got), answerOf(want));
    }

    private static long answerOf(Due.Call call) {
        try {
            return call.answer();
        } catch (NoSuchElementException e) {
            return Long.MIN_VALUE;
        }
    }

    // ---- texts

    private void feed(String text) {
        int[] five = new int[5];
        int before = m.tape.length();
        for (int from = 0; from < text.length(); from += 20) {
            for (int i = 0; i < 20; i++) {
                int b = from + i < text.length() ? text.charAt(from + i) & 255 : 0;
                five[i / 4] = five[i / 4] << 8 | b;
            }
            check("feed", x.feed(five[0], five[1], five[2], five[3], five[4]), m.feed(five.clone()));
        }
        int end = before + text.length();
        check("end " + end, x.end(end), m.end(end));
    }

    private String spoil(String text) {
        if (text.isEmpty()) {
            return pick(LETTERS);
        }
        int at = n(text.length());
        switch (n(4)) {
            case 0:
                return text.substring(0, at) + pick(LETTERS) + text.substring(at);
            case 1:
                return text.substring(0, at) + text.substring(at + 1);
            case 2:
                return text.substring(0, at);
            default:
                return text.substring(0, at) + pick(LETTERS) + text.substring(at + 1);
        }
    }

    private String blank() {
        return n(30) == 0 ? "\n" : n(30) == 0 ? "  " : " ";
    }

    private String join(Object... parts) {
        StringBuilder text = new StringBuilder();
        for (Object part : parts) {
            if (text.length() > 0) {
                text.append(blank());
            }
            text.append(part);
        }
        return text.append(n(20) == 0 ? " ;" : ";").append(n(10) == 0 ? "\n" : "").toString();
    }

    private void tellParish(int size) {
        String text = parishText(size);
        if (n(12) == 0) {
            text = spoil(text);
        }
        if (n(60) == 0) {
            text = text + " ".repeat(Math.max(0, 890 + n(30) - text.length()));
        }
        feed(text.length() > 940 ? text.substring(0, 940) : text);
        check("parish of " + text, x.parish(), m.parish());
        check("fault", x.fault(), m.fault);
    }

    private String parishText(int size) {
        int wide = 1 + n(size);
        int high = 1 + n(size);
        List<String> lines = new ArrayList<>();
        lines.add(join("size", wide, high));
        int owners = 1 + n(4);
        for (int o = 0; o < owners; o++) {
            lines.add(join("owner", OWNERS[o]));
        }
        int kinds = 1 + n(4);
        for (int k = 0; k < kinds; k++) {
            String ever = n(4) == 0 ? " ever" : "";
            lines.add(join("kind", KINDS[k], 1 + n(12), 1 + n(9) + ever));
        }
        boolean[] had = new boolean[100];
        int fields = 0;
        int strips = 0;
        for (int i = 0; i < 12; i++) {
            int ax = n(wide);
            int ay = n(high);
            int aw = 1 + n(Math.min(4, wide - ax));
            int ah = 1 + n(Math.min(4, high - ay));
            if (n(200) != 0 && overlaps(had, ax, ay, aw, ah)) {
                continue;
            }
            if ((i < 2 || n(3) == 0) && strips < 3) {
                lines.add(join("strip", STRIPS[strips++], ax, ay, aw, ah));
            } else if (fields < 8) {
                fields++;
                lines.add(join("field", OWNERS[n(owners)], ax, ay, aw, ah));
            }
        }
        boolean[] stands = new boolean[100];
        int things = n(22);
        for (int i = 0; i < things; i++) {
            int cx = n(wide);
            int cy = n(high);
            if (n(200) != 0 && stands[cy * 10 + cx]) {
                continue;
            }
            stands[cy * 10 + cx] = true;
            lines.add(n(4) == 0 ? join("wall", cx, cy) : join("tree", KINDS[n(kinds)], cx, cy));
        }
        int winds = n(9);
        java.util.Set<Integer> blown = new java.util.HashSet<>();
        for (int w = 0; w < winds; w++) {
            int way = n(5);
            int force = 1 + n(4);
            if (blown.add(10 * way + force) || n(50) == 0) {
                lines.add(join("wind", Model.WAYS.get(way), force, 1 + n(9)));
            }
        }
        if (n(25) == 0) {
            java.util.Collections.swap(lines, n(lines.size()), n(lines.size()));
        }
        return String.join("", lines);
    }

    private static boolean overlaps(boolean[] had, int x, int y, int wide, int high) {
        boolean any = false;
        for (int cy = y; cy < y + high; cy++) {
            for (int cx = x; cx < x + wide; cx++) {
                any |= had[cy * 10 + cx];
            }
        }
        for (int cy = y; cy < y + high && !any; cy++) {
            for (int cx = x; cx < x + wide; cx++) {
                had[cy * 10 + cx] = true;
            }
        }
        return any;
    }

    private String rollText() {
        StringBuilder text = new StringBuilder();
        int lines = n(12) == 0 ? 38 + n(5) : n(9);
        for (int i = 0; i < lines; i++) {
            int cx = Math.max(0, Math.min(99, near(m.st.wide)));
            int cy = Math.max(0, Math.min(99, near(m.st.high)));
            switch (lines > 20 ? 2 : n(5)) {
                case 0:
                    text.append(join("blows", Model.WAYS.get(n(5)), 1 + n(4)));
                    break;
                case 1:
                    text.append(join("plants", KINDS[Math.min(4, n(m.st.kinds.size() + 1))], cx, cy));
                    break;
                case 2:
                    text.append(join("fells", n(14)));
                    break;
                case 3:
                    text.append(join("walls", cx, cy));
                    break;
                default:
                    text.append(join("rakes", cx, cy));
                    break;
            }
        }
        return text.toString();
    }

    private String condition(int depth) {
        StringBuilder text = new StringBuilder(saying(depth));
        int more = n(3);
        for (int i = 0; i < more; i++) {
            text.append(n(2) == 0 ? " and " : " or ").append(saying(depth));
        }
        return text.toString();
    }

    private String saying(int depth) {
        if (depth > 0 && n(3) == 0) {
            return n(2) == 0 ? "not " + saying(depth - 1) : "(" + condition(depth - 1) + ")";
        }
        switch (n(6)) {
            case 0:
                return "alive";
            case 1:
                return "ever";
            case 2:
                return "of " + KINDS[Math.min(4, n(m.st.kinds.size() + (n(10) == 0 ? 1 : 0) + 1) % 5)];
            case 3:
                return "for " + OWNERS[n(Math.max(1, m.st.owners.size()))];
            case 4:
                return "by " + STRIPS[n(Math.max(1, m.st.strips.size()))];
            default:
                return pick(new String[] {"x", "y", "leaves", "number"}) + blank() + pick(new String[] {"<", "=", ">"})
                    + n(n(9) == 0 ? 101 : 9);
        }
    }

    // ---- calls

    private void step(int size) {
        switch (n(24)) {
            case 0:
                if (n(6) == 0) {
                    tellParish(size);
                }
                break;
            case 1:
            case 2:
                rollOnce();
                break;
            case 3:
                sentenceOnce();
                break;
            case 4:
                imageOnce();
                break;
            case 5:
                blewOnce();
                break;
            case 6:
                rakedOnce();
                break;
            case 7:
                planOnce();
                break;
            case 8:
                drawOnce();
                break;
            case 9:
            case 10:
            case 11:
            case 12:
                askWinds();
                break;
            case 13:
            case 14:
            case 15:
            case 16:
                act();
                break;
            case 17:
                if (n(3) == 0) {
                    check("undo", x.undo(), m.undo());
                }
                break;
            case 18:
                oddTape();
                break;
            default:
                askState();
                break;
        }
    }

    private void act() {
        int cx = near(m.st.wide);
        int cy = near(m.st.high);
        switch (n(6)) {
            case 0:
            case 1: {
                int way = near(5);
                int force = near(4) + 1;
                check("blow " + way + " " + force, x.blow(way, force), m.blow(way, force));
                break;
            }
            case 2: {
                int kind = near(m.st.kinds.size());
                check("plant " + kind + " " + cx + " " + cy, x.plant(kind, cx, cy), m.plant(kind, cx, cy));
                break;
            }
            case 3: {
                int t = near(m.st.trees.size());
                check("fell " + t, x.fell(t), m.fell(t));
                break;
            }
            case 4:
                check("wall " + cx + " " + cy, x.wall(cx, cy), m.wall(cx, cy));
                break;
            default:
                check("rake " + cx + " " + cy, x.rake(cx, cy), m.rake(cx, cy));
                break;
        }
    }

    private void askState() {
        int k = near(7);
        int t = near(m.st.trees.size());
        int o = near(m.st.owners.size());
        int s = near(m.st.strips.size());
        int cx = near(m.st.wide);
        int cy = near(m.st.high);
        checkThrowing("tree " + t + " " + k, () -> x.tree(t, k), () -> m.tree(t, k));
        checkThrowing("cell " + cx + " " + cy + " " + k, () -> x.cell(cx, cy, k), () -> m.cell(cx, cy, k));
        check("owner " + o + " " + k, x.owner(o, k), m.owner(o, k));
        check("strip " + s + " " + k, x.strip(s, k), m.strip(s, k));
        check("now " + k, x.now(k), m.now(k));
        int what = near(8);
        check("count " + what, x.count(what), m.count(what));
        int said = near(5);
        check("said " + said, x.said(said), m.said(said));
        check("said -1", x.said(-1), m.said(-1));
    }

    private void askWinds() {
        int way = near(5);
        int force = near(4) + 1;
        int t = near(m.st.trees.size());
        int o = near(m.st.owners.size());
        int s = near(m.st.strips.size());
        int cx = near(m.st.wide);
        int cy = near(m.st.high);
        String wind = " by " + way + " " + force;
        check("leaves " + cx + " " + cy + wind, x.leaves(cx, cy, way, force), m.leaves(cx, cy, way, force));
        check("votes " + t + " " + s + wind, x.votes(t, s, way, force), m.votes(t, s, way, force));
        check("voices " + o + " " + s + wind, x.voices(o, s, way, force), m.voices(o, s, way, force));
        check("goes " + s + wind, x.goes(s, way, force), m.goes(s, way, force));
        check("sack " + o + wind, x.sack(o, way, force), m.sack(o, way, force));
        check("decides " + s + wind, x.decides(s, way, force), m.decides(s, way, force));
        int what = near(2);
        checkThrowing("likely " + o + " " + s + " " + what, () -> x.likely(o, s, what), () -> m.likely(o, s, what));
    }

    private void rollOnce() {
        String text = rollText();
        feed(n(6) == 0 ? spoil(text) : text.length() > 430 ? text.substring(0, 430) : text);
        int lives = near(2);
        check("roll " + lives + " of " + text, x.roll(lives), m.roll(lives));
        check("fault", x.fault(), m.fault);
        for (int what = -1; what < 5; what++) {
            check("rolled " + what, x.rolled(what), m.rolled(what));
        }
        if (m.tape.length() > 0) {
            check("end 0", x.end(0), m.end(0));
        }
    }

    private void sentenceOnce() {
        String text = condition(n(9));
        text = n(5) == 0 ? spoil(text) : text;
        text = text.length() > 230 ? text.substring(0, 230) : text;
        feed(text);
        check("sentence " + text, x.sentence(), m.sentence());
        check("fault", x.fault(), m.fault);
    }

    private void imageOnce() {
        int k = near(2);
        if (n(2) == 0) {
            check("image " + k, x.image(k), m.image(k));
        } else if (n(2) == 0) {
            check("restore " + k, x.restore(k), m.restore(k));
        }
    }

    private String sacksBy(int way, int force) {
        StringBuilder sacks = new StringBuilder();
        for (int o = 0; o < m.st.owners.size(); o++) {
            int sack = m.sack(o, way, force);
            sacks.append((char) Math.max(0, n(12) == 0 ? sack + n(3) - 1 : sack));
        }
        return n(12) == 0 ? sacks + "\0" : sacks.toString();
    }

    private void blewOnce() {
        feed(sacksBy(n(5), 1 + n(4)));
        check("blew", x.blew(), m.blew());
        check("wind", x.wind(), m.wind);
    }

    private void rakedOnce() {
        int way = n(5);
        int force = 1 + n(4);
        Model.State kept = m.st;
        m.st = kept.copy();
        int rakes = n(3);
        for (int i = 0; i < rakes; i++) {
            m.st.rake(n(kept.wide), n(kept.high));
        }
        String sacks = sacksBy(way, force);
        m.st = kept;
        feed(sacks);
        int asked = n(15) == 0 ? near(5) : way;
        check("raked " + asked + " " + force, x.raked(asked, force), m.raked(asked, force));
        check("where", x.where(), m.where);
    }

    private void planOnce() {
        int o = near(m.st.owners.size());
        int s = near(m.st.strips.size());
        int kind = near(m.st.kinds.size());
        boolean small = m.st.wide * m.st.high <= 20 || n(40) == 0;
        switch (n(small ? 3 : 2)) {
            case 0: {
                int years = near(21);
                check("bestTree " + o + " " + s + " " + kind + " " + years, x.bestTree(o, s, kind, years),
                    m.bestTree(o, s, kind, years));
                break;
            }
            case 1:
                check("bestWall " + o + " " + s, x.bestWall(o, s), m.bestWall(o, s));
                break;
            default: {
                int p = near(m.st.owners.size());
                check("duel " + o + " " + p + " " + s + " " + kind, x.duel(o, p, s, kind), m.duel(o, p, s, kind));
                break;
            }
        }
        check("at", x.at(), m.at);
    }

    private void drawOnce() {
        if (n(2) == 0) {
            int many = n(4) == 0 ? near(61) : near(6);
            int seed = random.nextInt();
            check("drawn " + many + " " + seed, x.drawn(many, seed), m.drawn(many, seed));
        } else {
            int o = near(m.st.owners.size());
            int s = near(m.st.strips.size());
            int many = n(10) == 0 ? near(31) : 1 + n(6);
            int seed = n(10) == 0 ? Integer.MAX_VALUE - n(3) : random.nextInt();
            check("odds " + o + " " + s + " " + many + " " + seed, x.odds(o, s, many, seed), m.odds(o, s, many, seed));
        }
    }

    private void oddTape() {
        int a = random.nextInt();
        if (n(3) == 0) {
            check("feed", x.feed(a, a + 1, a + 2, a + 3, a + 4), m.feed(a, a + 1, a + 2, a + 3, a + 4));
        }
        int to = near(m.tape.length() + 1);
        check("end " + to, x.end(to), m.end(to));
        check("end 0", x.end(0), m.end(0));
    }
}
