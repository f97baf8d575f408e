import java.util.ArrayList;
import java.util.HashMap;
import java.util.List;
import java.util.Map;
import java.util.NoSuchElementException;

/**
 * The document told again in the plainest way there is (trees, recursion, exceptions, new objects at will),
 * so that the program can be compared with it call by call. It has nothing in common with the program's code.
 */
final class Model {
    static final class Fails extends RuntimeException { Fails() { super(null, null, false, false); } }
    static final class TooLong extends RuntimeException { TooLong() { super(null, null, false, false); } }
    static final class Fault extends RuntimeException {
        final int at;
        Fault(int at) { super(null, null, false, false); this.at = at; }
    }
    static final class Tired extends RuntimeException { Tired() { super(null, null, false, false); } }
    static final class Stuck extends RuntimeException { Stuck() { super(null, null, false, false); } }

    /** kind: N B O, v a variable, > , ! and ^ # guesses and constants. */
    static final class Ty {
        final char kind; final int n; final Ty a; final Ty b;
        Ty(char kind, int n, Ty a, Ty b) { this.kind = kind; this.n = n; this.a = a; this.b = b; }
    }
    static final Ty N = new Ty('N', 0, null, null), B = new Ty('B', 0, null, null), O = new Ty('O', 0, null, null);
    static Ty guess(int n) { return new Ty('^', n, null, null); }
    static Ty two(char kind, Ty a, Ty b) { return new Ty(kind, 0, a, b); }

    static long signs(Ty t) { return t == null ? 0 : 1 + signs(t.a) + signs(t.b); }
    static int rank(Ty t) {
        switch (t.kind) {
            case '!': return Math.max(1, rank(t.a));
            case '>': { int f = rank(t.a); return Math.max(rank(t.b), f > 0 ? f + 1 : 0); }
            case ',': return Math.max(rank(t.a), rank(t.b));
            default: return 0;
        }
    }
    static int alls(Ty t) { return t == null ? 0 : (t.kind == '!' ? 1 : 0) + alls(t.a) + alls(t.b); }
    static Ty put(Ty t, int letter, Ty with) {
        if (t == null) return null;
        if (t.kind == 'v') return t.n == letter ? with : t;
        if (t.kind == '!' && t.n == letter) return t;
        if (t.a == null) return t;
        return new Ty(t.kind, t.n, put(t.a, letter, with), put(t.b, letter, with));
    }
    static Ty inside(Ty all, Ty with) { return put(all.a, all.n, with); }
    static boolean has(Ty t, char kind, int n) {
        return t != null && (t.kind == kind && (kind == '!' || t.n == n) || has(t.a, kind, n) || has(t.b, kind, n));
    }
    static void guesses(Ty t, List<Integer> into) {
        if (t == null) return;
        if (t.kind == '^' && !into.contains(t.n)) into.add(t.n);
        guesses(t.a, into);
        guesses(t.b, into);
    }
    static String told(Ty t) {
        StringBuilder s = new StringBuilder();
        tell(t, s, new HashMap<>(), new int[1], new ArrayList<>(), new ArrayList<>());
        return s.toString();
    }
    private static void tell(Ty t, StringBuilder s, Map<Integer, Character> letters, int[] alls, List<Integer> gs, List<Integer> cs) {
        switch (t.kind) {
            case 'v': s.append(letters.get(t.n)); break;
            case '^': if (!gs.contains(t.n)) gs.add(t.n); s.append('^').append(gs.indexOf(t.n) % 10); break;
            case '#': if (!cs.contains(t.n)) cs.add(t.n); s.append('#').append(cs.indexOf(t.n) % 10); break;
            case '!': {
                char c = (char) ('a' + alls[0]++ % 26);
                Map<Integer, Character> more = new HashMap<>(letters);
                more.put(t.n, c);
                s.append('!').append(c);
                tell(t.a, s, more, alls, gs, cs);
                break;
            }
            case '>': case ',':
                s.append(t.kind);
                tell(t.a, s, letters, alls, gs, cs);
                tell(t.b, s, letters, alls, gs, cs);
                break;
            default: s.append(t.kind);
        }
    }
    /** The type with, for each variable, how many ALLS stand between it and its own. */
    static String nameless(Ty t, List<Integer> scope) {
        if (t == null) return "";
        if (t.kind == 'v') return "v" + (scope.size() - scope.lastIndexOf(t.n));
        if (t.kind != '!') return t.kind + nameless(t.a, scope) + nameless(t.b, scope);
        List<Integer> more = new ArrayList<>(scope);
        more.add(t.n);
        return "!" + nameless(t.a, more);
    }

    static final class Ex {
        char op; int n; int at; List<Ex> kids = new ArrayList<>(); Ty type;
        Ex(char op, int at) { this.op = op; this.at = at; }
    }
    static void all(Ex e, List<Ex> into) { into.add(e); for (Ex k : e.kids) all(k, into); }

    // ---- the tape ----
    final List<Integer> tape = new ArrayList<>();
    private int pos;

    private int peek() { while (pos < tape.size() && tape.get(pos) == 32) pos++; return pos < tape.size() ? tape.get(pos) : -1; }
    private int letter() {
        int c = peek();
        if (c < 'a' || c > 'z') throw new Fault(pos);
        pos++;
        return c - 'a';
    }
    private Ex expression(int depth) {
        int c = peek();
        if (c < 0 || depth > 20) throw new Fault(pos);
        Ex e = new Ex((char) c, pos);
        if (c >= 'a' && c <= 'z') { e.op = 'x'; e.n = c - 'a'; pos++; return e; }
        if (Character.isDigit(c) && c < 128) {
            e.op = '1';
            int digits = 0;
            while (pos < tape.size() && tape.get(pos) >= '0' && tape.get(pos) <= '9') {
                if (digits == 2) throw new Fault(pos);
                e.n = e.n * 10 + tape.get(pos) - '0';
                digits++;
                pos++;
            }
            return e;
        }
        int kids;
        switch (c) {
            case 'T': case 'U': case '*': kids = 0; break;
            case '/': case ':': case '[': case ']': kids = 1; break;
            case '@': case '&': case ',': case '+': case '<': kids = 2; break;
            case '?': kids = 3; break;
            default: throw new Fault(pos);
        }
        pos++;
        if (c == '/' || c == '&') e.n = letter();
        for (int i = 0; i < kids; i++) e.kids.add(expression(depth + 1));
        if (c == ':') e.type = type(depth + 1, new ArrayList<>());
        return e;
    }
    private Ty type(int depth, List<Integer> scope) {
        int c = peek();
        if (c < 0 || depth > 20) throw new Fault(pos);
        if (c == 'N' || c == 'B' || c == 'O') { pos++; return c == 'N' ? N : c == 'B' ? B : O; }
        if (c == '>' || c == ',') { pos++; Ty a = type(depth + 1, scope); return two((char) c, a, type(depth + 1, scope)); }
        if (c == '!') {
            pos++;
            int l = letter();
            List<Integer> more = new ArrayList<>(scope);
            more.add(l);
            return new Ty('!', l, type(depth + 1, more), null);
        }
        if (c >= 'a' && c <= 'z' && scope.contains(c - 'a')) { pos++; return new Ty('v', c - 'a', null, null); }
        throw new Fault(pos);
    }
    private void over() { if (peek() >= 0) throw new Fault(pos); }
    private Ex wholeExpression() { pos = 0; Ex e = expression(1); over(); return e; }
    private Ty[] wholeTypes(int n) {
        pos = 0;
        Ty[] t = new Ty[n];
        for (int i = 0; i < n; i++) t[i] = type(1, new ArrayList<>());
        over();
        return t;
    }

    // ---- the shelf ----
    static final class Kept { int name; Ex e; Ty type; int opened; }
    final List<Kept> shelf = new ArrayList<>();

    // ---- judging ----
    static final class Entry {
        int kind, number; Ty type;
        Entry(int kind, int number, Ty type) { this.kind = kind; this.number = number; this.type = type; }
    }
    final class Run {
        final List<Entry> context = new ArrayList<>();
        final List<int[]> steps = new ArrayList<>();
        int guesses, constants, most, verdict, failedAt = -1, limit = 300;
        Ex begun;
        Ty type;
        boolean ofExpression;

        Ty by(Ty t) { return by(t, new int[1]); }
        private Ty by(Ty t, int[] taken) {
            if (t.kind == '^') {
                Entry e = find(2, 3, t.n);
                if (e.kind == 3) return by(e.type, taken);
            }
            if (++taken[0] > 150) throw new TooLong();
            if (t.a == null) return t;
            Ty a = by(t.a, taken);
            return new Ty(t.kind, t.n, a, t.b == null ? null : by(t.b, taken));
        }
        Entry find(int kind, int orKind, int number) {
            Entry found = null;
            for (Entry e : context) if ((e.kind == kind || e.kind == orKind) && e.number == number) found = e;
            return found;
        }
        Entry add(int kind, int number, Ty type) { Entry e = new Entry(kind, number, type); context.add(e); return e; }
        Entry newGuess() { return add(2, guesses++, null); }
        Entry newConstant() { return add(0, constants++, null); }
        void cut(Entry e) { while (context.contains(e)) context.remove(context.size() - 1); }
        Ty constant(Entry e) { return new Ty('#', e.number, null, null); }
        Entry open(Ty t) {
            if (t.kind != '^') return null;
            Entry e = find(2, 3, t.n);
            return e != null && e.kind == 2 ? e : null;
        }
        /** For to (second) and for from (first). */
        Entry[] split(Entry g, char kind) {
            Entry later = new Entry(2, guesses++, null), former = new Entry(2, guesses++, null);
            int at = context.indexOf(g);
            context.add(at, later);
            context.add(at + 1, former);
            g.kind = 3;
            g.type = two(kind, guess(former.number), guess(later.number));
            return new Entry[] {later, former};
        }
        int[] begin(int kind, int depth, Ex e, Ty... types) {
            if (steps.size() >= limit || context.size() > 120) throw new TooLong();
            int signs = 0;
            for (int i = 0; i < types.length; i++) { types[i] = by(types[i]); signs += (int) signs(types[i]); }
            int[] s = {0, context.size(), depth, e == null ? -1 : e.at, signs, kind};
            steps.add(s);
            most = Math.max(most, context.size());
            if (kind <= 1) begun = e;
            return s;
        }
        void check(Ex e, Ty against, int d) {
            Ty[] t = {against};
            int[] s = begin(0, d, e, t);
            Ty a = t[0];
            if (a.kind == '!') {
                s[0] = 1;
                Entry c = newConstant();
                check(e, inside(a, constant(c)), d + 1);
                cut(c);
            } else if (e.op == '/' && a.kind == '>') {
                s[0] = 2;
                Entry x = add(1, e.n, a.a);
                check(e.kids.get(0), a.b, d + 1);
                cut(x);
            } else if (e.op == ',' && a.kind == ',') {
                s[0] = 3;
                check(e.kids.get(0), a.a, d + 1);
                check(e.kids.get(1), a.b, d + 1);
            } else if (e.op == '?') {
                s[0] = 4;
                check(e.kids.get(0), B, d + 1);
                check(e.kids.get(1), a, d + 1);
                check(e.kids.get(2), a, d + 1);
            } else if (e.op == '&') {
                s[0] = 5;
                Ty first = by(infer(e.kids.get(0), d + 1));
                Entry x = add(1, e.n, first);
                check(e.kids.get(1), a, d + 1);
                cut(x);
            } else {
                s[0] = 6;
                Ty found = infer(e, d + 1);
                below(found, a, d + 1);
            }
        }
        Ty infer(Ex e, int d) {
            int[] s = begin(1, d, e);
            switch (e.op) {
                case 'x': {
                    Entry x = find(1, 1, e.n);
                    if (x == null) throw new Fails();
                    s[0] = 7;
                    return x.type;
                }
                case '1': s[0] = 8; return N;
                case 'T': case 'U': s[0] = 8; return B;
                case '*': s[0] = 8; return O;
                case ':': s[0] = 9; check(e.kids.get(0), e.type, d + 1); return e.type;
                case '/': {
                    s[0] = 10;
                    Entry from = newGuess(), to = newGuess(), x = add(1, e.n, guess(from.number));
                    check(e.kids.get(0), guess(to.number), d + 1);
                    cut(x);
                    return two('>', guess(from.number), guess(to.number));
                }
                case '@': {
                    s[0] = 11;
                    Ty f = infer(e.kids.get(0), d + 1);
                    return apply(f, e.kids.get(1), d + 1);
                }
                case '&': {
                    s[0] = 12;
                    Ty first = by(infer(e.kids.get(0), d + 1));
                    Entry x = add(1, e.n, first);
                    Ty t = infer(e.kids.get(1), d + 1);
                    context.remove(x);
                    return t;
                }
                case '?': {
                    s[0] = 13;
                    check(e.kids.get(0), B, d + 1);
                    Ty t = infer(e.kids.get(1), d + 1);
                    check(e.kids.get(2), t, d + 1);
                    return t;
                }
                case ',': {
                    s[0] = 14;
                    Ty a = infer(e.kids.get(0), d + 1);
                    return two(',', a, infer(e.kids.get(1), d + 1));
                }
                case '[': case ']': {
                    s[0] = 15;
                    Ty t = by(infer(e.kids.get(0), d + 1));
                    while (t.kind == '!') t = inside(t, guess(newGuess().number));
                    if (t.kind == ',') return e.op == '[' ? t.a : t.b;
                    Entry g = open(t);
                    if (g == null) throw new Fails();
                    return guess(split(g, ',')[e.op == '[' ? 1 : 0].number);
                }
                default: {
                    s[0] = 16;
                    check(e.kids.get(0), N, d + 1);
                    check(e.kids.get(1), N, d + 1);
                    return e.op == '+' ? N : B;
                }
            }
        }
        Ty apply(Ty what, Ex e, int d) {
            Ty[] t = {what};
            int[] s = begin(2, d, e, t);
            Ty a = t[0];
            if (a.kind == '!') { s[0] = 17; return apply(inside(a, guess(newGuess().number)), e, d + 1); }
            Entry g = open(a);
            if (g != null) {
                s[0] = 18;
                Entry[] parts = split(g, '>');
                check(e, guess(parts[1].number), d + 1);
                return guess(parts[0].number);
            }
            if (a.kind != '>') throw new Fails();
            s[0] = 19;
            check(e, a.a, d + 1);
            return a.b;
        }
        void below(Ty low, Ty high, int d) {
            Ty[] t = {low, high};
            int[] s = begin(3, d, null, t);
            Ty a = t[0], b = t[1];
            if (b.kind == '!') {
                s[0] = 20;
                Entry c = newConstant();
                below(a, inside(b, constant(c)), d + 1);
                cut(c);
                return;
            }
            if (a.kind == '!') {
                s[0] = 21;
                Entry m = add(4, guesses, null);
                below(inside(a, guess(newGuess().number)), b, d + 1);
                cut(m);
                return;
            }
            if (a.kind == b.kind && a.n == b.n && "NBO^#".indexOf(a.kind) >= 0) { s[0] = 22; return; }
            if (open(a) != null && !has(b, '^', a.n)) { s[0] = 23; left(open(a), b, d + 1); return; }
            if (open(b) != null && !has(a, '^', b.n)) { s[0] = 24; right(a, open(b), d + 1); return; }
            if (a.kind == '>' && b.kind == '>') {
                s[0] = 25;
                below(b.a, a.a, d + 1);
                below(a.b, b.b, d + 1);
            } else if (a.kind == ',' && b.kind == ',') {
                s[0] = 26;
                below(a.a, b.a, d + 1);
                below(a.b, b.b, d + 1);
            } else {
                throw new Fails();
            }
        }
        boolean allAhead(Ty t, Entry g) {
            if (t == null) return true;
            if (t.kind == '^' || t.kind == '#') {
                Entry e = t.kind == '^' ? find(2, 3, t.n) : find(0, 0, t.n);
                return e != null && context.indexOf(e) < context.indexOf(g);
            }
            return allAhead(t.a, g) && allAhead(t.b, g);
        }
        boolean solves(int[] s, Entry g, Ty a, int rule) {
            if (!has(a, '!', 0) && allAhead(a, g)) {
                s[0] = rule;
                g.kind = 3;
                g.type = a;
                return true;
            }
            Entry other = open(a);
            if (other != null && context.indexOf(other) > context.indexOf(g)) {
                s[0] = rule + 1;
                other.kind = 3;
                other.type = guess(g.number);
                return true;
            }
            return false;
        }
        void left(Entry g, Ty what, int d) {
            Ty[] t = {what};
            int[] s = begin(4, d, null, t);
            Ty a = t[0];
            if (g.kind != 2 || !context.contains(g)) throw new Fails();
            if (solves(s, g, a, 27)) return;
            if (a.kind == '>') {
                s[0] = 29;
                Entry[] parts = split(g, '>');
                right(a.a, parts[1], d + 1);
                left(parts[0], a.b, d + 1);
            } else if (a.kind == ',') {
                s[0] = 30;
                Entry[] parts = split(g, ',');
                left(parts[1], a.a, d + 1);
                left(parts[0], a.b, d + 1);
            } else if (a.kind == '!') {
                s[0] = 31;
                Entry c = newConstant();
                left(g, inside(a, constant(c)), d + 1);
                cut(c);
            } else {
                throw new Fails();
            }
        }
        void right(Ty what, Entry g, int d) {
            Ty[] t = {what};
            int[] s = begin(5, d, null, t);
            Ty a = t[0];
            if (g.kind != 2 || !context.contains(g)) throw new Fails();
            if (solves(s, g, a, 32)) return;
            if (a.kind == '>') {
                s[0] = 34;
                Entry[] parts = split(g, '>');
                left(parts[1], a.a, d + 1);
                right(a.b, parts[0], d + 1);
            } else if (a.kind == ',') {
                s[0] = 35;
                Entry[] parts = split(g, ',');
                right(a.a, parts[1], d + 1);
                right(a.b, parts[0], d + 1);
            } else if (a.kind == '!') {
                s[0] = 36;
                Entry m = add(4, guesses, null);
                right(inside(a, guess(newGuess().number)), g, d + 1);
                cut(m);
            } else {
                throw new Fails();
            }
        }
        Run expression(Ex e, int most) {
            limit = most;
            ofExpression = true;
            for (Kept k : shelf) add(1, k.name, k.type);
            try {
                type = by(infer(e, 0));
            } catch (Fails f) {
                verdict = 1;
                failedAt = begun.at;
            } catch (TooLong l) {
                verdict = 2;
            }
            return this;
        }
        Run types(Ty a, Ty b) {
            try {
                below(a, b, 0);
            } catch (Fails f) {
                verdict = 1;
            } catch (TooLong l) {
                verdict = 2;
            }
            return this;
        }
    }

    // ---- working out ----
    static final class Value {
        int kind, n; Value a, b; Ex f; Scope names; int count = 1;
        Value(int kind, int n) { this.kind = kind; this.n = n; }
    }
    static final class Scope {
        final int name; final Value value; final Scope rest;
        Scope(int name, Value value, Scope rest) { this.name = name; this.value = value; this.rest = rest; }
    }
    private int paces;
    private Value work(Ex e, Scope names) {
        if (paces == 400) throw new Tired();
        paces++;
        switch (e.op) {
            case 'x': {
                for (Scope s = names; s != null; s = s.rest) if (s.name == e.n) return s.value;
                for (Kept k : shelf) if (k.name == e.n) return work(k.e, null);
                throw new Stuck();
            }
            case '1': return new Value(0, e.n);
            case 'T': return new Value(1, 1);
            case 'U': return new Value(1, 0);
            case '*': return new Value(2, 0);
            case '/': { Value v = new Value(4, 0); v.f = e; v.names = names; return v; }
            case '@': {
                Value f = must(work(e.kids.get(0), names), 4);
                Value x = work(e.kids.get(1), names);
                return work(f.f.kids.get(0), new Scope(f.f.n, x, f.names));
            }
            case ':': return work(e.kids.get(0), names);
            case '&': { Value v = work(e.kids.get(0), names); return work(e.kids.get(1), new Scope(e.n, v, names)); }
            case '?': { Value v = must(work(e.kids.get(0), names), 1); return work(e.kids.get(v.n == 1 ? 1 : 2), names); }
            case ',': {
                Value v = new Value(3, 0);
                v.a = work(e.kids.get(0), names);
                v.b = work(e.kids.get(1), names);
                v.count = Math.min(1000000, 1 + v.a.count + v.b.count);
                return v;
            }
            case '[': return must(work(e.kids.get(0), names), 3).a;
            case ']': return must(work(e.kids.get(0), names), 3).b;
            default: {
                int a = must(work(e.kids.get(0), names), 0).n, b = must(work(e.kids.get(1), names), 0).n;
                return e.op == '+' ? new Value(0, a + b) : new Value(1, a < b ? 1 : 0);
            }
        }
    }
    private static Value must(Value v, int kind) { if (v.kind != kind) throw new Stuck(); return v; }

    // ---- the face ----
    private Run judgement;
    private Ex latest;
    private boolean kept;
    /** Letters that no text has and that are used once, so that no variable is caught by another ALL. */
    private int nextLetter = 1000;
    private int mostSteps;
    private final int[] ends = new int[3];

    int feed(int... words) {
        List<Integer> more = new ArrayList<>();
        for (int w : words) for (int s = 24; s >= 0; s -= 8) if ((w >>> s & 255) != 0) more.add(w >>> s & 255);
        if (tape.size() + more.size() > 300) return -1;
        tape.addAll(more);
        return tape.size();
    }
    boolean end(int n) {
        if (n < 0 || n > tape.size()) return false;
        while (tape.size() > n) tape.remove(tape.size() - 1);
        return true;
    }
    int fault(int what) {
        if (what < 0 || what > 2) return -2;
        try {
            if (what == 0) wholeExpression(); else wholeTypes(what);
            return -1;
        } catch (Fault f) {
            return f.at;
        }
    }
    private int judged(Run run) {
        judgement = run;
        kept = false;
        mostSteps = Math.max(mostSteps, run.steps.size());
        ends[run.verdict]++;
        tape.clear();
        return run.verdict;
    }
    int infers() {
        try {
            Ex e = wholeExpression();
            latest = e;
            return judged(new Run().expression(e, 300));
        } catch (Fault f) {
            return -1;
        }
    }
    int below() {
        try {
            Ty[] t = wholeTypes(2);
            return judged(new Run().types(t[0], t[1]));
        } catch (Fault f) {
            return -1;
        }
    }
    int judged(int what) {
        Run r = judgement;
        if (r == null) return -1;
        List<Integer> open = new ArrayList<>();
        guesses(r.type, open);
        int[] all = {r.verdict, r.steps.size(), r.guesses, r.constants, r.context.size(), r.most, r.failedAt, open.size(), r.type == null ? -1 : rank(r.type)};
        return what >= 0 && what < all.length ? all[what] : -1;
    }
    private static int tellOne(Ty t, int k) {
        if (t == null) return -1;
        String s = told(t);
        return k == -1 ? s.length() : k >= 0 && k < s.length() ? s.charAt(k) : -1;
    }
    int type(int k) { return judgement == null ? -1 : tellOne(judgement.type, k); }
    int step(int i, int what) {
        if (judgement == null || i < 0 || i >= judgement.steps.size() || what < 0 || what > 5) throw new NoSuchElementException();
        return judgement.steps.get(i)[what];
    }
    int entry(int i, int what) {
        if (judgement == null || i < 0 || i >= judgement.context.size() || what < 0 || what > 2) return -1;
        Entry e = judgement.context.get(i);
        return what == 0 ? e.kind : what == 1 ? e.number : (int) signs(e.type);
    }
    int entryType(int i, int k) {
        return judgement == null || i < 0 || i >= judgement.context.size() ? -1 : tellOne(judgement.context.get(i).type, k);
    }
    int keeps(int name) {
        if (judgement == null || !judgement.ofExpression || judgement.verdict != 0 || kept || shelf.size() >= 8 || name < 0 || name > 25) return -1;
        for (Kept k : shelf) if (k.name == name) return -1;
        Kept k = new Kept();
        k.name = name;
        k.e = latest;
        List<Integer> open = new ArrayList<>();
        guesses(judgement.type, open);
        k.opened = open.size();
        Ty t = judgement.type;
        for (int i = open.size() - 1; i >= 0; i--) {
            int letter = nextLetter++;
            t = new Ty('!', letter, replace(t, open.get(i), letter), null);
        }
        k.type = t;
        shelf.add(k);
        kept = true;
        return shelf.size();
    }
    private static Ty replace(Ty t, int guess, int letter) {
        if (t == null) return null;
        if (t.kind == '^') return t.n == guess ? new Ty('v', letter, null, null) : t;
        return t.a == null ? t : new Ty(t.kind, t.n, replace(t.a, guess, letter), replace(t.b, guess, letter));
    }
    int drops() {
        if (shelf.isEmpty()) return -1;
        shelf.remove(shelf.size() - 1);
        return shelf.size();
    }
    int shelf(int i, int what) {
        if (i < 0 || i >= shelf.size() || what < 0 || what > 4) return -1;
        Kept k = shelf.get(i);
        List<Ex> es = new ArrayList<>();
        all(k.e, es);
        return new int[] {k.name, (int) signs(k.type), rank(k.type), k.opened, es.size()}[what];
    }
    int shelfType(int i, int k) { return i < 0 || i >= shelf.size() ? -1 : tellOne(shelf.get(i).type, k); }
    int worked(int what) {
        if (latest == null || what < 0 || what > 3) return -2;
        paces = 0;
        int how = 0;
        Value v = null;
        try {
            v = work(latest, null);
        } catch (Tired t) {
            how = 1;
        } catch (Stuck t) {
            how = 2;
        }
        switch (what) {
            case 0: return how;
            case 1: return paces;
            case 2: return v == null ? -1 : v.kind;
            default: return v == null ? 0 : v.kind <= 1 ? v.n : v.count;
        }
    }
    private static Ex noted(Ex e, Ex which, Ty type) {
        Ex c = new Ex(e.op, e.at);
        c.n = e.n;
        c.type = e.type;
        for (Ex k : e.kids) c.kids.add(noted(k, which, type));
        if (e != which) return c;
        Ex n = new Ex(':', e.at);
        n.type = type;
        n.kids.add(c);
        return n;
    }
    int asks() {
        if (latest == null) return -2;
        Ty t;
        try {
            t = wholeTypes(1)[0];
        } catch (Fault f) {
            return -3 - f.at;
        }
        tape.clear();
        List<Ex> es = new ArrayList<>();
        all(latest, es);
        int used = 0;
        for (Ex e : es) {
            Run r = new Run().expression(noted(latest, e, t), 300);
            used += r.steps.size();
            if (used > 500) return -1;
            if (r.verdict == 0) return e.at;
        }
        return -1;
    }
    int tells(int what) {
        if (what < 0 || what > 3) return -1;
        try {
            Ty[] t = wholeTypes(2);
            tape.clear();
            return what == 0 ? (int) signs(t[0]) : what == 1 ? rank(t[0]) : what == 3 ? alls(t[0])
                : nameless(t[0], new ArrayList<>()).equals(nameless(t[1], new ArrayList<>())) ? 1 : 0;
        } catch (Fault f) {
            return -1;
        }
    }
    int shelfBelow(int i, int other) {
        if (i < 0 || other < 0 || i >= shelf.size() || other >= shelf.size()) return -1;
        return new Run().types(shelf.get(i).type, shelf.get(other).type).verdict;
    }
    int count(int what) {
        List<Ex> es = new ArrayList<>();
        if (latest != null) all(latest, es);
        int[] all = {tape.size(), shelf.size(), mostSteps, ends[0], ends[1], ends[2], es.size()};
        return what >= 0 && what < all.length ? all[what] : -1;
    }
    int byRule(int rule) {
        if (judgement == null || rule < 1 || rule > 36) return -1;
        int n = 0;
        for (int[] s : judgement.steps) if (s[0] == rule) n++;
        return n;
    }
}
