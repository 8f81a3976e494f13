import java.util.ArrayList;
import java.util.Collections;
import java.util.List;
import java.util.Random;

/** bestTree, bestWall, duel and decides on crowded parishes, beside the plain model that tries every cell out. */
public final class PlanningTest {
    private static final String[] OWNERS = {"ann", "bob", "cy", "dee"};

    private final Random random;
    private final String run;
    private final LeafVotes x;
    private final Model m = new Model();

    private PlanningTest(long seed) {
        random = new Random(seed);
        run = "run " + seed + " ";
        String text = crowdedParish();
        x = Due.of(text);
        m.tape.append(text);
        Due.due(run + "parish", m.parish() > 0, true);
    }

    public static void main(String[] args) {
        for (long seed = 1; seed <= 150; seed++) {
            new PlanningTest(seed).go();
        }
        Due.close();
    }

    private int n(int bound) {
        return random.nextInt(bound);
    }

    /** A field in each corner, strips as a cross between them, trees and walls all over, winds from everywhere. */
    private String crowdedParish() {
        int half = 1 + n(2);
        int side = 2 * half + 1;
        int far = half + 1;
        StringBuilder text = new StringBuilder("size " + side + " " + side + ";");
        for (String owner : OWNERS) {
            text.append("owner ").append(owner).append(";");
        }
        int[][] corners = {{0, 0}, {far, 0}, {0, far}, {far, far}};
        for (int o = 0; o < 4; o++) {
            text.append("field " + OWNERS[(o + half) % 4] + " " + corners[o][0] + " " + corners[o][1] + " " + half + " " + half + ";");
        }
        text.append("strip mid 0 " + half + " " + side + " 1;strip top " + half + " 0 1 " + half + ";");
        for (int k = 0; k < 3; k++) {
            text.append("kind k" + (char) ('a' + k) + " " + (1 + n(12)) + " " + (1 + n(4)) + (n(5) == 0 ? " ever" : "") + ";");
        }
        List<Integer> cells = new ArrayList<>();
        for (int c = 0; c < side * side; c++) {
            cells.add(c);
        }
        Collections.shuffle(cells, random);
        int trees = 2 + n(side == 3 ? 4 : 8);
        int walls = n(4);
        for (int i = 0; i < trees + walls; i++) {
            String place = " " + cells.get(i) % side + " " + cells.get(i) / side + ";";
            text.append(i < trees ? "tree k" + (char) ('a' + n(3)) : "wall").append(place);
        }
        List<Integer> winds = new ArrayList<>();
        for (int w = 0; w < 20; w++) {
            winds.add(w);
        }
        Collections.shuffle(winds, random);
        int many = 1 + n(8);
        for (int i = 0; i < many; i++) {
            text.append("wind " + Model.WAYS.get(winds.get(i) / 4) + " " + (1 + winds.get(i) % 4) + " " + (1 + n(9)) + ";");
        }
        return text.toString();
    }

    private void go() {
        plan();
        int seed = random.nextInt();
        Due.due(run + "drawn", x.drawn(2, seed), m.drawn(2, seed));
        for (int i = 0; i < 3; i++) {
            int cx = n(m.st.wide);
            int cy = n(m.st.high);
            Due.due(run + "rake", x.rake(cx, cy), m.rake(cx, cy));
        }
        int felled = n(m.st.trees.size());
        Due.due(run + "fell", x.fell(felled), m.fell(felled));
        plan();
    }

    private void plan() {
        for (int s = 0; s < 2; s++) {
            for (int o = 0; o < 4; o++) {
                Due.due(run + "bestWall " + o + " " + s, x.bestWall(o, s), m.bestWall(o, s));
                Due.due(run + "its at", x.at(), m.at);
                int kind = n(3);
                int years = n(13);
                Due.due(run + "bestTree " + o + " " + s + " " + kind + " " + years, x.bestTree(o, s, kind, years),
                    m.bestTree(o, s, kind, years));
                Due.due(run + "its at", x.at(), m.at);
                Due.due(run + "likely", x.likely(o, s, 0), m.likely(o, s, 0));
            }
            int way = n(5);
            int force = 1 + n(4);
            Due.due(run + "decides " + s, x.decides(s, way, force), m.decides(s, way, force));
            int o = n(4);
            int p = (o + 1 + n(3)) % 4;
            int kind = n(3);
            Due.due(run + "duel " + o + " " + p + " " + s + " " + kind, x.duel(o, p, s, kind), m.duel(o, p, s, kind));
            Due.due(run + "its at", x.at(), m.at);
        }
    }
}
