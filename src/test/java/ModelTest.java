import java.util.NoSuchElementException;

/** Runs of calls by chance, of fixed seeds: the program must answer as the model does. */
public final class ModelTest {
    private static int wrong = 0;
    private static final int[] rules = new int[37];
    private static final int[] verdicts = new int[3];
    private static final int[] hows = new int[3];
    private static int asked = 0;

    private final RankChecker real = new RankChecker();
    private final Model model = new Model();
    private final StringBuilder run = new StringBuilder();

    private void same(String call, long got, long due) {
        if (got != due && wrong < 20) {
            System.out.println(call + " answered " + got + ", due is " + due + " in the run:" + run);
        }
        if (got != due) wrong++;
    }
    private void feed(String text) {
        run.append("\n  feed ").append(text);
        for (int from = 0; from < text.length(); from += 20) {
            int[] w = new int[5];
            for (int i = from; i < Math.min(from + 20, text.length()); i++) w[(i - from) / 4] |= text.charAt(i) << 24 - (i - from) % 4 * 8;
            same("feed", real.feed(w[0], w[1], w[2], w[3], w[4]), model.feed(w));
        }
    }
    private int call(String name, int got, int due) {
        run.append("\n  ").append(name).append(" ").append(due);
        same(name, got, due);
        return due;
    }
    private void faults() { for (int what = -1; what <= 3; what++) same("fault(" + what + ")", real.fault(what), model.fault(what)); }
    private void sameStep(int i, int what) {
        int got;
        int due;
        try { got = real.step(i, what); } catch (NoSuchElementException e) { got = -1000; }
        try { due = model.step(i, what); } catch (NoSuchElementException e) { due = -1000; }
        same("step(" + i + ", " + what + ")", got, due);
    }
    private void state() {
        for (int what = -1; what <= 9; what++) same("judged(" + what + ")", real.judged(what), model.judged(what));
        for (int k = -2; k <= Math.max(0, model.type(-1)); k++) same("type(" + k + ")", real.type(k), model.type(k));
        int steps = Math.max(0, model.judged(1));
        for (int i = -1; i <= steps; i++) for (int what = -1; what <= 6; what++) sameStep(i, what);
        int entries = Math.max(0, model.judged(4));
        for (int i = -1; i <= entries; i++) {
            for (int what = -1; what <= 3; what++) same("entry(" + i + ", " + what + ")", real.entry(i, what), model.entry(i, what));
            for (int k = -2; k <= Math.max(0, model.entryType(i, -1)); k++) same("entryType(" + i + ", " + k + ")", real.entryType(i, k), model.entryType(i, k));
        }
        for (int rule = 0; rule <= 37; rule++) same("byRule(" + rule + ")", real.byRule(rule), model.byRule(rule));
        for (int rule = 1; rule <= 36; rule++) rules[rule] += Math.max(0, model.byRule(rule));
    }
    private void shelves() {
        for (int i = -1; i <= 8; i++) {
            for (int what = -1; what <= 5; what++) same("shelf(" + i + ", " + what + ")", real.shelf(i, what), model.shelf(i, what));
            for (int k = -2; k <= Math.max(0, model.shelfType(i, -1)); k++) same("shelfType(" + i + ", " + k + ")", real.shelfType(i, k), model.shelfType(i, k));
            for (int other = -1; other <= 8; other++) same("shelfBelow(" + i + ", " + other + ")", real.shelfBelow(i, other), model.shelfBelow(i, other));
        }
    }
    private void others() {
        for (int what = -1; what <= 7; what++) same("count(" + what + ")", real.count(what), model.count(what));
        for (int what = -1; what <= 4; what++) same("worked(" + what + ")", real.worked(what), model.worked(what));
    }
    private String expression(Texts texts) {
        String e;
        String scope = onTheShelf();
        switch (texts.below(4)) {
            case 0: e = texts.any(1 + texts.below(6), scope); break;
            case 1: case 2: e = texts.right(1 + texts.below(6)); break;
            default: e = texts.large();
        }
        if (!scope.isEmpty() && texts.once(3)) e = texts.heavy(texts.once(2) ? 20 : 290, scope);
        if (!scope.isEmpty() && texts.once(4)) e = "@" + scope.charAt(texts.below(scope.length())) + e;
        if (!scope.isEmpty() && texts.once(8)) e = "," + scope.charAt(texts.below(scope.length())) + e;
        return texts.once(6) ? texts.spoilt(e) : e;
    }
    private void infers(Texts texts) {
        feed(expression(texts));
        faults();
        int verdict = call("infers()", real.infers(), model.infers());
        if (verdict >= 0) verdicts[verdict]++;
        state();
        if (texts.once(2)) {
            int name = texts.below(28) - 1;
            call("keeps(" + name + ")", real.keeps(name), model.keeps(name));
            if (texts.once(3)) call("keeps(3)", real.keeps(3), model.keeps(3));
        }
        int how = model.worked(0);
        if (how >= 0) hows[how]++;
    }
    private void types(Texts texts) {
        String a = texts.type(1 + texts.below(5));
        String b = texts.once(3) ? texts.type(3) : texts.near(a);
        String both = texts.once(2) ? a + " " + b : b + a;
        feed(texts.once(8) ? texts.spoilt(both) : both);
        faults();
        if (texts.once(3)) {
            int what = texts.below(6) - 1;
            call("tells(" + what + ")", real.tells(what), model.tells(what));
        } else {
            call("below()", real.below(), model.below());
            state();
        }
    }
    private void asks(Texts texts) {
        String t = texts.once(2) ? texts.type(3) : texts.once(2) ? ">!a>aa,NB" : "!a>aa";
        feed(texts.once(8) ? texts.spoilt(t) : t);
        faults();
        if (call("asks()", real.asks(), model.asks()) >= 0) asked++;
        state();
    }
    private void go(Texts texts) {
        for (int i = 0; i < 14; i++) {
            if (texts.below(5) > 0) {
                run.append("\n  end(0)");
                same("end(0)", real.end(0) ? 1 : 0, model.end(0) ? 1 : 0);
            } else {
                int n = texts.below(40) - 3;
                run.append("\n  end(").append(n).append(")");
                same("end", real.end(n) ? 1 : 0, model.end(n) ? 1 : 0);
            }
            switch (texts.below(7)) {
                case 0: case 1: case 2: infers(texts); break;
                case 3: case 4: types(texts); break;
                case 5: asks(texts); break;
                default:
                    if (texts.once(3)) call("drops()", real.drops(), model.drops());
            }
            others();
            if (texts.once(3)) shelves();
        }
    }

    private String onTheShelf() {
        StringBuilder s = new StringBuilder();
        for (int i = 0; i < model.shelf.size(); i++) s.append((char) ('a' + model.shelf.get(i).name));
        return s.toString();
    }
    private void clear() {
        run.append("\n  end(0)");
        same("end(0)", real.end(0) ? 1 : 0, model.end(0) ? 1 : 0);
    }
    /** Long types on the shelf first; then what is made of their names alone. */
    private void goWithAFullShelf(Texts texts) {
        for (int name = texts.below(6) + 1; name >= 0; name--) {
            clear();
            feed(texts.forTheShelf(onTheShelf()));
            call("infers()", real.infers(), model.infers());
            state();
            call("keeps(" + name + ")", real.keeps(name), model.keeps(name));
        }
        shelves();
        for (int i = 0; i < 6 && !model.shelf.isEmpty(); i++) {
            clear();
            feed(texts.heavy(10 + texts.below(280), onTheShelf()));
            faults();
            int verdict = call("infers()", real.infers(), model.infers());
            state();
            others();
            if (verdict == 0 && texts.once(2)) {
                int name = texts.below(26);
                call("drops()", real.drops(), model.drops());
                call("keeps(" + name + ")", real.keeps(name), model.keeps(name));
                shelves();
            }
            if (texts.once(3)) asks(texts);
        }
    }

    public static void main(String[] args) {
        long from = args.length > 0 ? Long.parseLong(args[0]) : 1;
        long many = args.length > 1 ? Long.parseLong(args[1]) : 2500;
        for (long seed = from; seed < from + many && wrong == 0; seed++) {
            new ModelTest().go(new Texts(seed));
            if (seed % 10 == 0) new ModelTest().goWithAFullShelf(new Texts(seed));
        }
        // a rule that no run comes to would not be tested
        for (int rule = 1; rule <= 36; rule++) {
            if (rules[rule] == 0) { System.out.println("no run came to rule " + rule); wrong++; }
        }
        for (int i = 0; i < 3; i++) if (verdicts[i] == 0 || hows[i] == 0) { System.out.println("no run ended in " + i); wrong++; }
        if (asked == 0) { System.out.println("no run found what it asked for"); wrong++; }
        if (args.length > 1) System.out.println(java.util.Arrays.toString(rules) + java.util.Arrays.toString(verdicts) + java.util.Arrays.toString(hows) + asked);
        if (wrong > 0) System.exit(1);
        System.out.println("the program answers as the model does");
    }
}
