import java.util.ArrayList;
import java.util.List;
import java.util.Random;

/** Makes texts by chance (of a seed that is given, so always the same ones). */
final class Texts {
    private final Random random;

    Texts(long seed) { random = new Random(seed); }

    int below(int n) { return random.nextInt(n); }
    boolean once(int n) { return random.nextInt(n) == 0; }
    private char letter() { return (char) ('a' + (once(3) ? below(26) : below(5))); }

    // ---- types ----
    String type(int depth) { return type(depth, new ArrayList<>()); }
    private String type(int depth, List<Character> scope) {
        int k = depth <= 0 ? below(4) : below(14);
        if (k < 4) {
            if (!scope.isEmpty() && below(3) > 0) return "" + scope.get(below(scope.size()));
            return "" + "NBON".charAt(below(4));
        }
        if (k < 8) return ">" + type(depth - 1, scope) + type(depth - 1, scope);
        if (k < 10) return "," + type(depth - 1, scope) + type(depth - 1, scope);
        char a = letter();
        List<Character> more = new ArrayList<>(scope);
        more.add(a);
        return "!" + a + type(depth - 1, more);
    }
    private static int skip(String t, int i) {
        switch (t.charAt(i)) {
            case '>': case ',': return skip(t, skip(t, i + 1));
            case '!': return skip(t, i + 2);
            default: return i + 1;
        }
    }
    /** A type that is often above or below another one: parts of it taken apart, closed, named anew, changed. */
    String near(String t) {
        StringBuilder s = new StringBuilder(t);
        for (int tries = below(3); tries >= 0; tries--) {
            int at = below(s.length());
            if (at > 0 && s.charAt(at - 1) == '!') continue;
            String part = s.substring(at, skip(s.toString(), at));
            boolean free = false;
            for (char c : part.toCharArray()) free |= c >= 'a' && c <= 'z';
            String with = part;
            switch (below(4)) {
                case 0: with = "!" + letter() + part; break;
                case 1: if (part.charAt(0) == '!') with = part.substring(2).replace(part.charAt(1), "NBO".charAt(below(3))); break;
                case 2: if (!free) with = type(2); break;
                default: if (!free) { char a = letter(); with = "!" + a + (once(2) ? "" + a : ">" + a + a); }
            }
            s.replace(at, at + part.length(), with);
        }
        return s.toString();
    }

    // ---- expressions of no type in particular ----
    String any(int depth, String scope) {
        if (depth <= 0 || once(6)) return leaf(scope);
        char a = letter();
        switch (below(13)) {
            case 0: case 1: return "/" + a + any(depth - 1, scope + a);
            case 2: case 3: return "@" + any(depth - 1, scope) + " " + any(depth - 1, scope);
            case 4: return ":" + any(depth - 1, scope) + type(3);
            case 5: return "&" + a + any(depth - 1, scope) + " " + any(depth - 1, scope + a);
            case 6: return "?" + any(depth - 2, scope) + any(depth - 1, scope) + " " + any(depth - 1, scope);
            case 7: case 8: return "," + any(depth - 1, scope) + " " + any(depth - 1, scope);
            case 9: return "[" + any(depth - 1, scope);
            case 10: return "]" + any(depth - 1, scope);
            case 11: return "+" + any(depth - 1, scope) + " " + any(depth - 1, scope);
            default: return "<" + any(depth - 1, scope) + " " + any(depth - 1, scope);
        }
    }
    private String leaf(String scope) {
        if (!scope.isEmpty() && below(4) > 0) return "" + scope.charAt(below(scope.length()));
        switch (below(6)) {
            case 0: return "T";
            case 1: return "U";
            case 2: return "*";
            case 3: return "" + letter();
            default: return "" + below(100);
        }
    }

    // ---- expressions that mostly have a type ----
    private static final class Named {
        final char name; final String type;
        Named(char name, String type) { this.name = name; this.type = type; }
    }
    String right(int depth) {
        String t = type(3);
        String e = of(t, depth, new ArrayList<>());
        return once(2) ? ":" + e + t : e;
    }
    private String of(String t, int depth, List<Named> scope) {
        if (t.charAt(0) == '!') return of(t.substring(2).replace(t.charAt(1), "NBO".charAt(below(3))), depth, scope);
        List<String> ready = new ArrayList<>();
        for (int i = 0; i < scope.size(); i++) {
            boolean hidden = false;
            for (int j = i + 1; j < scope.size(); j++) hidden |= scope.get(j).name == scope.get(i).name;
            String s = scope.get(i).type;
            if (hidden) continue;
            if (s.equals(t) || s.charAt(0) == '!' && once(3)) ready.add("" + scope.get(i).name);
            if (s.charAt(0) == ',' && s.substring(1, skip(s, 1)).equals(t)) ready.add("[" + scope.get(i).name);
            if (s.charAt(0) == ',' && s.substring(skip(s, 1)).equals(t)) ready.add("]" + scope.get(i).name);
            if (s.charAt(0) == '>' && s.substring(skip(s, 1)).equals(t) && depth > 0) {
                ready.add("@" + scope.get(i).name + of(s.substring(1, skip(s, 1)), depth - 1, scope));
            }
        }
        if (!ready.isEmpty() && below(4) > 0) return ready.get(below(ready.size()));
        if (depth > 0 && once(4)) return roundabout(t, depth, scope);
        switch (t.charAt(0)) {
            case 'N': return depth > 0 && once(3) ? "+" + of("N", depth - 1, scope) + " " + of("N", depth - 1, scope) : below(100) + " ";
            case 'B': return depth > 0 && once(3) ? "<" + of("N", depth - 1, scope) + " " + of("N", depth - 1, scope) : once(2) ? "T" : "U";
            case 'O': return "*";
            case ',': return "," + of(t.substring(1, skip(t, 1)), depth - 1, scope) + of(t.substring(skip(t, 1)), depth - 1, scope);
            case '>': {
                char x = letter();
                List<Named> more = new ArrayList<>(scope);
                more.add(new Named(x, t.substring(1, skip(t, 1))));
                return "/" + x + of(t.substring(skip(t, 1)), depth - 1, more);
            }
            default: return leaf("");
        }
    }
    private String roundabout(String t, int depth, List<Named> scope) {
        String s = type(2);
        char x = letter();
        List<Named> more = new ArrayList<>(scope);
        more.add(new Named(x, s));
        switch (below(6)) {
            case 0: return "&" + x + of(s, depth - 1, scope) + of(t, depth - 1, more);
            case 1: return "@/" + x + of(t, depth - 1, more) + of(s, depth - 1, scope);
            case 2: return "?" + of("B", depth - 2, scope) + of(t, depth - 1, scope) + of(t, depth - 1, scope);
            case 3: return "[," + of(t, depth - 1, scope) + of(s, depth - 1, scope);
            case 4: return "]," + of(s, depth - 1, scope) + of(t, depth - 1, scope);
            default: {
                boolean free = false;
                for (int i = 0; i < t.length(); i++) free |= t.charAt(i) >= 'a' && t.charAt(i) <= 'z';
                return free ? of(t, depth - 1, scope) : "@:/" + x + of(t, depth - 1, more) + ">" + s + t + of(s, depth - 1, scope);
            }
        }
    }

    // ---- texts that come near the limits ----
    private String tree(int leaves, String... each) {
        if (leaves <= 1) return each[below(each.length)];
        int left = 1 + below(3) == 1 ? leaves / 2 : (leaves + 1) / 2;
        left = Math.max(1, Math.min(leaves - 1, left));
        return "," + tree(leaves - left, each) + tree(left, each);
    }
    String large() {
        switch (below(9)) {
            case 8: return once(2) ? "&f/x@xx@f" + leaf("f") : "&t/f/x@f@fx" + nest("@", 1 + below(7)) + nest("t", 1 + below(7)) + "/y,yy 0";
            case 0: return tree(40 + below(35), "/xx");
            case 1: return tree(20 + below(50), "1 ", "T", "*");
            case 2: {
                StringBuilder s = new StringBuilder();
                int n = 3 + below(8);
                for (int i = 0; i < n; i++) s.append('&').append((char) ('a' + i)).append(i == 0 ? "1" : ",").append(i == 0 ? "" : "" + (char) ('a' + i - 1) + (char) ('a' + i - 1));
                return s.toString() + (char) ('a' + n - 1);
            }
            case 3: {
                StringBuilder s = new StringBuilder();
                int n = 3 + below(17);
                for (int i = 0; i < n; i++) s.append("/").append((char) ('a' + below(26)));
                return s + any(2, "abcdefghij");
            }
            case 4: {
                StringBuilder s = new StringBuilder("/f");
                int n = 2 + below(17);
                for (int i = 0; i < n; i++) s.append("@f");
                return s + leaf("f");
            }
            case 5: return "&d/x,xx" + nest("@d", 2 + below(14)) + leaf("d");
            case 6: return "&t/f/x@f@fx" + (once(2) ? "@@" : "") + nest("@t", below(4)) + (once(2) ? "/y+y1 0" : "t");
            default: return tree(2 + below(12), "/x+[x]x", "/f/g/x@f@gx", "/f,@f1@fT", ":/xx!a>aa", "/p,]p[p", "&i/xx,i i");
        }
    }
    private static String nest(String s, int n) {
        StringBuilder t = new StringBuilder();
        for (int i = 0; i < n; i++) t.append(s);
        return t.toString();
    }

    /** Much of what is on the shelf, used again and again: its types may be long. */
    String heavy(int room, String scope) {
        char a = letter();
        if (room < 4) return "" + scope.charAt(below(scope.length()));
        int left = 1 + below(room - 3);
        switch (below(9)) {
            case 0: return "/" + a + heavy(room - 2, scope + a);
            case 1: return "@/" + a + heavy(left, scope + a) + heavy(room - left - 3, scope);
            case 2: case 3: return "@" + heavy(left, scope) + heavy(room - left - 1, scope);
            case 4: return "&" + a + heavy(left, scope) + heavy(room - left - 2, scope + a);
            case 5: return "?T" + heavy(left, scope) + heavy(room - left - 2, scope);
            case 6: case 7: return "," + heavy(left, scope) + heavy(room - left - 1, scope);
            default: return (once(2) ? "[" : "]") + heavy(room - 1, scope);
        }
    }

    private static final String[] RIGHT = {
        "/f/g/x@f@gx", "/p,]p[p", "/f,@f1@f2", ":/f,@f1@fT>!a>aa,NB", "/x/y/z,x,yz", "/x,,xx,xx", "/f/x@f@f@fx", ":/xx!a>aa", "/x/y?xyy", "/x?<x1/yy/yy",
        ":/f@ff>!a>aa!a>aa", "/p+[p]p", "/a/b/c/d,,ab,cd", ",/xx,/xx,/xx/xx", "/f/g,@f1@g,@f2T", ",:/xx!a>aa,:/x/yx!a!b>a>ba:/xx!a>aa", ":/k,@@k1T@@kT1>!a!b>a>ba,NB"
    };
    /** What is right, and long; of it and of the first and the last on the shelf longer ones are made. */
    String forTheShelf(String scope) {
        String one = RIGHT[below(RIGHT.length)];
        switch (below(4)) {
            case 0: return large();
            case 1: return one;
            case 2: return "," + one + "," + RIGHT[below(RIGHT.length)] + RIGHT[below(RIGHT.length)];
            default: return scope.isEmpty() ? one : "," + scope.charAt(0) + "," + scope.charAt(scope.length() - 1) + one;
        }
    }

    // ---- texts with something wrong in them ----
    String spoilt(String s) {
        StringBuilder t = new StringBuilder(s);
        for (int n = below(3); n > 0 && t.length() > 0; n--) {
            int at = below(t.length());
            switch (below(4)) {
                case 0: t.deleteCharAt(at); break;
                case 1: t.insert(at, (char) (1 + below(255))); break;
                case 2: t.insert(at, ' '); break;
                default: t.setCharAt(at, "abzNBO>,!/@:&?[]+<TU*0199 ".charAt(below(26)));
            }
        }
        return t.toString();
    }
}
