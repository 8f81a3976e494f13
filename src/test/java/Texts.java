/** What tests of texts share: a text's fault is told by a bar in front of it. */
final class Texts {
    /** The parish that rolls and sentences are read in. */
    static final String BASE = "owner ann;owner bob;kind oak 3 2;kind fir 4 5 ever;strip mid 2 0 1 3;tree oak 0 0;";

    private Texts() {
    }

    static String blanks(String text, int bytes) {
        return text + " ".repeat(bytes - text.length());
    }

    /** A bar in front of a place. */
    static String bar(String text, int place) {
        return text.substring(0, place) + "|" + text.substring(place);
    }

    static void parish(String barred, int kind) {
        LeafVotes x = new LeafVotes();
        String text = barred.replaceFirst("[|]", "");
        Due.due("parish of " + barred, Due.parish(x, text), -1 - barred.indexOf('|'));
        Due.due("fault of " + barred, x.fault(), kind);
        Due.due("the tape behind " + barred, x.count(7), 0);
        Due.due("the parish stays behind " + barred, x.count(0) * 10 + x.count(2), 60);
    }

    static LeafVotes parishStands(String text, int lines) {
        LeafVotes x = new LeafVotes();
        Due.due("parish of " + text, Due.parish(x, text), lines);
        Due.due("fault of " + text, x.fault(), 0);
        return x;
    }

    static void roll(String barred, int kind) {
        LeafVotes x = Due.of(BASE);
        for (int lives = 0; lives < 2; lives++) {
            Due.due("roll of " + barred, Due.roll(x, barred.replaceFirst("[|]", ""), lives), -2 - barred.indexOf('|'));
            Due.due("fault of " + barred, x.fault(), kind);
            Due.due("the tape behind " + barred, x.count(7), 0);
            Due.due("nothing is rolled by " + barred, x.rolled(1), -1);
            Due.due("nothing is to be undone behind " + barred, x.undo(), -1);
        }
    }

    /** A roll without a fault, be it wrong or not. */
    static void rollStands(String text) {
        LeafVotes x = Due.of(BASE);
        Due.due("roll of " + text, Due.roll(x, text, 0) >= -1, true);
        Due.due("fault of " + text, x.fault(), 0);
        Due.due("it was judged: " + text, x.rolled(0) >= 0, true);
    }

    static void sentence(String barred, int kind) {
        LeafVotes x = Due.of(BASE);
        Due.sentence(x, "alive");
        Due.due("sentence of " + barred, Due.sentence(x, barred.replaceFirst("[|]", "")), -1 - barred.indexOf('|'));
        Due.due("fault of " + barred, x.fault(), kind);
        Due.due("the tape behind " + barred, x.count(7), 0);
        Due.due("the sentence stays behind " + barred, x.said(0), 0);
    }

    static void sentenceStands(String text, int ones) {
        LeafVotes x = Due.of(BASE);
        Due.due("sentence of " + text, Due.sentence(x, text), ones);
        Due.due("fault of " + text, x.fault(), 0);
    }
}
