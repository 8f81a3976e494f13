import java.util.NoSuchElementException;

/** All that calls which change nothing tell of an object, as one text, so that two objects can be told apart. */
final class Seen {
    private Seen() {
    }

    static String of(LeafVotes x) {
        StringBuilder text = new StringBuilder();
        for (int what = 0; what < 8; what++) {
            text.append(" count ").append(x.count(what));
        }
        for (int what = 0; what < 6; what++) {
            text.append(" now ").append(x.now(what));
        }
        for (int t = 0; t < x.count(5); t++) {
            text.append(" tree").append(t);
            for (int what = 0; what < 7; what++) {
                text.append(' ').append(x.tree(t, what));
            }
        }
        for (int y = 0; y < x.count(1); y++) {
            for (int cx = 0; cx < x.count(0); cx++) {
                text.append(" cell").append(10 * y + cx);
                for (int what = 0; what < 5; what++) {
                    text.append(' ').append(x.cell(cx, y, what));
                }
            }
        }
        holders(x, text);
        text.append(" fault ").append(x.fault()).append(" wind ").append(x.wind()).append(" where ").append(x.where());
        text.append(" at ").append(x.at());
        for (int what = 0; what < 4; what++) {
            text.append(" rolled ").append(x.rolled(what));
        }
        for (int k = -1; k < 14; k++) {
            text.append(" said ").append(x.said(k));
        }
        return text.toString();
    }

    private static void holders(LeafVotes x, StringBuilder text) {
        for (int o = 0; o < x.count(2); o++) {
            for (int what = 0; what < 4; what++) {
                text.append(" owner").append(o).append(' ').append(x.owner(o, what));
            }
        }
        for (int s = 0; s < x.count(3); s++) {
            for (int what = 0; what < 4; what++) {
                text.append(" strip").append(s).append(' ').append(x.strip(s, what));
            }
            for (int o = 0; o < x.count(2); o++) {
                text.append(" likely ").append(likely(x, o, s));
            }
        }
    }

    private static String likely(LeafVotes x, int o, int s) {
        try {
            return x.likely(o, s, 0) + "/" + x.likely(o, s, 1);
        } catch (NoSuchElementException e) {
            return "none";
        }
    }

    static void alike(String what, LeafVotes x, LeafVotes y) {
        String one = of(x);
        String other = of(y);
        Due.due(what + ": all is alike", one.equals(other), true);
        if (!one.equals(other)) {
            System.out.println("  " + one + "\n  " + other);
        }
    }
}
