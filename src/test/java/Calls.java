import java.util.NoSuchElementException;

/** What the tests of the promises share: an object, texts put onto its tape, and answers compared with those that are due. */
final class Calls {
    static int wrong = 0;
    private static String promise = "";
    final RankChecker x = new RankChecker();

    static void promise(int number) { promise = "promise " + number + ": "; }
    /** What is tested from here on, in the words of the document. */
    static void sentence(String where, String words) { promise = where + ", '" + words + "': "; }

    static void due(String what, long got, long want) {
        if (got != want) {
            wrong++;
            System.out.println(promise + what + " answered " + got + ", due is " + want);
        }
    }
    static void due(String what, String got, String want) {
        if (!got.equals(want)) {
            wrong++;
            System.out.println(promise + what + " answered " + got + ", due is " + want);
        }
    }
    static void ends(String name) {
        if (wrong > 0) {
            System.out.println(name + ": " + wrong + " wrong");
            System.exit(1);
        }
        System.out.println(name + ": all answers are as due");
    }

    /** The text comes behind what the tape has: what the last feed answers. */
    int more(String text) {
        int answer = x.count(0);
        for (int from = 0; from < text.length(); from += 20) {
            int[] w = new int[5];
            for (int i = from; i < Math.min(from + 20, text.length()); i++) w[(i - from) / 4] |= text.charAt(i) << 24 - (i - from) % 4 * 8;
            answer = x.feed(w[0], w[1], w[2], w[3], w[4]);
        }
        return answer;
    }
    Calls tape(String text) { x.end(0); more(text); return this; }
    int fault(String text, int what) { return tape(text).x.fault(what); }
    int infers(String text) { return tape(text).x.infers(); }
    int below(String text) { return tape(text).x.below(); }
    int asks(String text) { return tape(text).x.asks(); }
    int tells(String text, int what) { return tape(text).x.tells(what); }
    int keeps(String text, char name) { infers(text); return x.keeps(name - 'a'); }

    boolean noStep(int i, int what) {
        try {
            x.step(i, what);
            return false;
        } catch (NoSuchElementException e) {
            return true;
        }
    }
    /** One what of all steps. */
    String steps(int what) {
        StringBuilder s = new StringBuilder();
        for (int i = 0; i < x.judged(1); i++) s.append(i == 0 ? "" : " ").append(x.step(i, what));
        return s.toString();
    }
    String type() {
        StringBuilder s = new StringBuilder();
        for (int k = 0; k < x.type(-1); k++) s.append((char) x.type(k));
        return x.type(-1) == -1 ? "none" : s.toString();
    }
    String shelfType(int i) {
        StringBuilder s = new StringBuilder();
        for (int k = 0; k < x.shelfType(i, -1); k++) s.append((char) x.shelfType(i, k));
        return x.shelfType(i, -1) == -1 ? "none" : s.toString();
    }
    /** The entries at the end: c0 a constant, name:type, ^0 an open guess, ^0=type, m0 a mark. */
    String context() {
        StringBuilder s = new StringBuilder();
        for (int i = 0; i < x.judged(4); i++) {
            int n = x.entry(i, 1);
            StringBuilder t = new StringBuilder();
            for (int k = 0; k < x.entryType(i, -1); k++) t.append((char) x.entryType(i, k));
            String[] all = {"c" + n, (char) ('a' + n) + ":" + t, "^" + n, "^" + n + "=" + t, "m" + n};
            s.append(i == 0 ? "" : " ").append(all[x.entry(i, 0)]);
        }
        return s.toString();
    }
    /** All that can be asked without a change: two objects that answer this alike are in the same state. */
    String seen() {
        StringBuilder s = new StringBuilder();
        for (int what = 0; what <= 6; what++) s.append(x.count(what)).append(' ');
        for (int what = 0; what <= 2; what++) s.append(x.fault(what)).append(' ');
        for (int what = 0; what <= 8; what++) s.append(x.judged(what)).append(' ');
        for (int what = 0; what <= 3; what++) s.append(x.worked(what)).append(' ');
        for (int rule = 1; rule <= 36; rule++) s.append(x.byRule(rule)).append(' ');
        for (int what = 0; what <= 5; what++) s.append("\n").append(steps(what));
        s.append("\n").append(type()).append("\n").append(context());
        for (int i = 0; i < x.count(1); i++) {
            s.append("\n").append(shelfType(i));
            for (int what = 0; what <= 4; what++) s.append(' ').append(x.shelf(i, what));
        }
        return s.toString();
    }
    static String times(String s, int n) {
        StringBuilder t = new StringBuilder();
        for (int i = 0; i < n; i++) t.append(s);
        return t.toString();
    }
    /** Twos of a sign, so even that none is deep: 2 n - 1 in all. */
    static String tree(String sign, int n, String leaf) {
        return n == 1 ? leaf : sign + tree(sign, n / 2, leaf) + tree(sign, n - n / 2, leaf);
    }
}
