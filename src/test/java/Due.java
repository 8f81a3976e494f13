import java.nio.charset.StandardCharsets;

/** What the tests share: feeding texts, comparing answers, counting what is wrong. */
final class Due {
    private static int wrong;
    private static int asked;

    private Due() {
    }

    static void due(String what, long got, long want) {
        asked++;
        if (got != want) {
            wrong++;
            System.out.println(what + " answered " + got + ", due is " + want);
        }
    }

    static void due(String what, boolean got, boolean want) {
        due(what, got ? 1 : 0, want ? 1 : 0);
    }

    static void close() {
        System.out.println(asked - wrong + " answers as due, " + wrong + " not");
        if (wrong != 0) {
            System.exit(1);
        }
    }

    /** A call that may throw. */
    interface Call {
        int answer();
    }

    static void noSuch(String what, Call call) {
        int got = 0;
        try {
            call.answer();
        } catch (java.util.NoSuchElementException e) {
            got = 1;
        }
        due(what + " throws NoSuchElementException (1)", got, 1);
    }

    static void tape(LeafVotes x, String text) {
        tape(x, text.getBytes(StandardCharsets.ISO_8859_1));
    }

    static void tape(LeafVotes x, byte[] bytes) {
        int before = x.count(7);
        for (int from = 0; from < bytes.length; from += 20) {
            int[] five = new int[5];
            for (int i = 0; i < 20; i++) {
                int b = from + i < bytes.length ? bytes[from + i] & 255 : 0;
                five[i / 4] = five[i / 4] << 8 | b;
            }
            if (x.feed(five[0], five[1], five[2], five[3], five[4]) < 0) {
                throw new IllegalStateException("the tape is full");
            }
        }
        x.end(before + bytes.length);
    }

    static int parish(LeafVotes x, String text) {
        tape(x, text);
        return x.parish();
    }

    static int sentence(LeafVotes x, String text) {
        tape(x, text);
        return x.sentence();
    }

    static int roll(LeafVotes x, String text, int lives) {
        tape(x, text);
        return x.roll(lives);
    }

    static LeafVotes of(String parishText) {
        LeafVotes x = new LeafVotes();
        int told = parish(x, parishText);
        if (told < 0) {
            throw new IllegalStateException("a test's parish has a fault: " + told + " " + x.fault() + " " + parishText);
        }
        return x;
    }
}
