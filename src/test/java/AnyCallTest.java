import java.lang.reflect.InvocationTargetException;
import java.lang.reflect.Method;
import java.lang.reflect.Modifier;
import java.util.Arrays;
import java.util.Comparator;
import java.util.NoSuchElementException;
import java.util.Random;
import java.util.Set;

/** Any calls in any order with any arguments: none throws, but for the three that the document lets throw. */
public final class AnyCallTest {
    private static final Set<String> MAY_THROW = Set.of("tree", "cell", "likely");
    private static final int[] EDGES = {Integer.MIN_VALUE, Integer.MAX_VALUE, -1, -2, 0, 1, 2, 3, 4, 5, 6, 9, 10, 13, 14, 20, 21, 30, 31,
        60, 61, 100, 940};
    private static final String[] TOLD = {"size 10 10;", "owner a;", "owner b;", "owner c;", "kind k 12 9;", "kind l 3 2 ever;", "kind m 5 5;",
        "field a 0 0 2 3;", "field b 2 0 1 2;", "strip s 2 2 1 1;", "strip t 0 3 3 1;", "strip u 5 5 2 2;", "tree k 1 1;", "tree l 2 2;",
        "tree m 0 3;", "wall 1 2;", "wall 0 0;", "wind east 2 3;", "wind still 1 1;", "wind north 4 9;"};
    private static final String[] PIECES = {"size 3 4;", "owner a;", "kind k 12 9;", "field a 0 0 2 3;", "tree k 1 1;", "blows east 2;",
        "plants k 1 0;", "fells 0;", "fells 13;", "walls 2 1;", "rakes 1 1;", "alive", "(", "not ", ")", " and ", " or ", "of k", "for a",
        "by s", "x<3", "leaves>2", "number=1", " ", "\n", ".", "~", "\u00ff", "\0"};

    private final Random random;

    private AnyCallTest(long seed) {
        random = new Random(seed);
    }

    public static void main(String[] args) throws IllegalAccessException {
        Method[] face = Arrays.stream(LeafVotes.class.getDeclaredMethods())
            .filter(m -> Modifier.isPublic(m.getModifiers())).sorted(Comparator.comparing(Method::getName)).toArray(Method[]::new);
        for (long seed = 1; seed <= 500; seed++) {
            new AnyCallTest(seed).go(face);
        }
        Due.close();
    }

    private void go(Method[] face) throws IllegalAccessException {
        LeafVotes x = new LeafVotes();
        tellParish(x);
        for (int call = 0; call < 400; call++) {
            if (random.nextInt(12) == 0) {
                tellAny(x);
            } else {
                call(x, face[random.nextInt(face.length)]);
            }
        }
    }

    private void tellParish(LeafVotes x) {
        StringBuilder text = new StringBuilder();
        for (String line : TOLD) {
            text.append(random.nextInt(8) > 0 ? line : "");
        }
        x.end(0);
        Due.parish(x, text.toString());
    }

    private void tellAny(LeafVotes x) {
        int which = random.nextInt(5);
        if (which == 0) {
            tellParish(x);
            return;
        }
        StringBuilder text = new StringBuilder();
        int from = random.nextInt(PIECES.length);
        int wide = 1 + random.nextInt(PIECES.length);
        for (int n = random.nextInt(30); n > 0; n--) {
            text.append(PIECES[(from + random.nextInt(wide)) % PIECES.length]);
        }
        x.end(0);
        Due.tape(x, text.toString());
        if (which == 1) {
            x.parish();
        } else if (which < 4) {
            x.roll(which - 2);
        } else {
            x.sentence();
        }
    }

    private int anyNumber() {
        int sort = random.nextInt(10);
        return sort == 0 ? random.nextInt() : sort == 1 ? EDGES[random.nextInt(EDGES.length)] : random.nextInt(4);
    }

    private void call(LeafVotes x, Method method) throws IllegalAccessException {
        Object[] numbers = new Object[method.getParameterCount()];
        for (int i = 0; i < numbers.length; i++) {
            numbers[i] = anyNumber();
        }
        String thrown = "";
        try {
            method.invoke(x, numbers);
        } catch (InvocationTargetException e) {
            boolean told = e.getCause().getClass() == NoSuchElementException.class && MAY_THROW.contains(method.getName());
            thrown = told ? "" : e.getCause().toString();
        }
        Due.due(method.getName() + Arrays.toString(numbers) + " throws " + thrown, thrown.isEmpty(), true);
    }
}
