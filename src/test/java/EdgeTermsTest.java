/**
 * The edges that the parts 'Terms', 2 and 3 of the document name, a test for each sentence: texts and their faults,
 * what is too long, what is told round again, values.
 */
public final class EdgeTermsTest {
    private static void due(String what, long got, long want) { Calls.due(what, got, want); }
    private static void due(String what, String got, String want) { Calls.due(what, got, want); }
    private static void fault(String text, int what, int want) { due("fault(" + what + ") of '" + text + "'", new Calls().fault(text, what), want); }

    // ---- texts ----

    private static void numbers() {
        Calls.sentence("Terms", "NUMBERS have two digits at most");
        for (int n = 0; n <= 99; n++) {
            for (String text : new String[] {"" + n, n < 10 ? "0" + n : "" + n}) {
                Calls c = new Calls();
                due("fault of " + text, c.fault(text, 0), -1);
                due("infers() of " + text, c.x.infers(), 0);
                due("worked(3) of " + text, c.x.worked(3), n);
            }
        }
        for (String text : new String[] {"100", "000", "001", "999", "100 ", "1000"}) fault(text, 0, 2);
        fault("+10 100", 0, 6);
        fault(",100 1", 0, 3);
        fault("/x100", 0, 4);
        fault(":100N", 0, 3);
    }

    private static void blanks() {
        Calls.sentence("Terms", "Blanks (32) may stand between all signs");
        for (String text : new String[] {"x", "7", "/xx", "@xy", ":1!a>a,NB", "&x1x", "?TU*", ",xy", "[x", "]x", "+xy", "<x1"}) {
            for (int at = 0; at <= text.length(); at++) {
                fault(text.substring(0, at) + " " + text.substring(at), 0, -1);
                fault(text.substring(0, at) + "    " + text.substring(at), 0, -1);
            }
            fault(text.replaceAll("(.)", " $1 "), 0, -1);
        }
        for (String text : new String[] {"N!aa", "!a>a!b,abB", "O>NB"}) fault(text.replaceAll("(.)", " $1 "), 2, -1);
        fault("! a a", 1, -1);
        fault(Calls.times(" ", 300), 0, 300);
        fault(Calls.times(" ", 300), 1, 300);
        fault(Calls.times(" ", 300), 2, 300);
        fault(Calls.times(" ", 298) + "NN", 2, -1);
        for (int other : new int[] {1, 9, 10, 13, 31, 35, 127, 160, 255}) {
            fault((char) other + "x", 0, 0);
            fault("@x" + (char) other + "y", 0, 2);
            fault("x" + (char) other, 0, 1);
            fault("N" + (char) other, 1, 1);
            fault("N" + (char) other + "N", 2, 1);
        }
        Calls.sentence("Terms", "and must between two NUMBERS");
        for (String text : new String[] {"+1 2", "+12 3", "+1 23", "+12 34", "<1  2", "+1x", "+x1", ",1T", "?T1*", ":1N", "@1:1N", "?T1,1 1"}) fault(text, 0, -1);
        fault("+12", 0, 3);
        fault("+123", 0, 3);
        fault("+1234", 0, 3);
        fault("+1 2 3", 0, 5);
        fault("?T1 23", 0, -1);
        fault("?T123", 0, 4);
        fault("1 2", 0, 2);
    }

    private static void variables() {
        Calls.sentence("Terms", "VARIABLES must stand within an ALL of them");
        for (char v = 'a'; v <= 'z'; v++) {
            fault("" + v, 1, 0);
            fault("!" + v + v, 1, -1);
            fault("!" + v + (char) ('a' + (v - 'a' + 1) % 26), 1, 2);
            fault(">" + v + "N", 1, 1);
            fault(">N" + v, 1, 2);
            fault(",!" + v + v + v, 1, 4);
            fault("!" + v + v + v, 2, 3);
            fault(":1" + v, 0, 2);
            fault(":1!" + v + v, 0, -1);
        }
        fault("!a,!aaa", 1, -1);
        fault("!a,!bba", 1, -1);
        fault("!a,!bbb", 1, 6);
        fault("!a!b!c,a,bc", 1, -1);
        fault(",!aN!ba", 1, 6);
        Calls.sentence("Terms", "a VARIABLE that stands in no ALL of it");
        fault("::1a!aa", 0, 3);
        fault(":/x:xa!a>aa", 0, 5);
        fault(",:1!aa:1a", 0, 8);
        fault(":/x:x!aa!a>aa", 0, -1);
    }

    /** A chain of so many of an op, each in the given part of the one ahead of it, and a leaf; other parts are leaves. */
    private static String chain(String op, int parts, int part, int many, String leaf, String behind) {
        return Calls.times(op + Calls.times(leaf, part), many) + leaf + Calls.times(Calls.times(leaf, parts - 1 - part) + behind, many);
    }
    private static void within(String op, int parts, String leaf, String behind, int what) {
        for (int part = 0; part < parts; part++) {
            fault(chain(op, parts, part, 19, leaf, behind), what, -1);
            int begin = 19 * (op.length() + part) + op.length();
            fault(chain(op, parts, part, 20, leaf, behind), what, begin);
            fault(chain(op, parts, part, 25, leaf, behind), what, begin);
            fault(chain(op, parts, part, 20, leaf, behind).substring(0, begin), what, begin);
        }
    }
    private static void depth() {
        Calls.sentence("Terms", "At most 20 within one another; a sign that would begin a 21st");
        for (String op : new String[] {"/x", "[", "]"}) within(op, 1, "T", "", 0);
        for (String op : new String[] {"@", "&y", ",", "+", "<"}) within(op, 2, "T", "", 0);
        within("?", 3, "T", "", 0);
        within(":", 1, "T", "B", 0);
        fault(Calls.times("[ ", 20) + "x", 0, 40);
        within(">", 2, "N", "", 1);
        within(",", 2, "N", "", 1);
        within("!a", 1, "a", "", 1);
        within("! z", 1, "N", "", 1);
        // each of two TYPES on its own
        fault(Calls.times("!a", 19) + "a" + Calls.times("!a", 19) + "a", 2, -1);
        fault(Calls.times("!a", 19) + "a" + Calls.times("!a", 20) + "a", 2, 79);
        fault(Calls.times("!a", 20) + "aN", 2, 40);
        // a TYPE is within the NOTED one that it is of
        for (int outer = 0; outer <= 18; outer++) {
            String front = Calls.times("[", outer) + ":1";
            fault(front + Calls.times("!a", 18 - outer) + "a", 0, outer == 18 ? front.length() : -1);
            fault(front + Calls.times("!a", 18 - outer) + "N", 0, -1);
            fault(front + Calls.times("!a", 19 - outer) + "N", 0, front.length() + 2 * (19 - outer));
        }
        fault(Calls.times("[", 19) + ":1N", 0, 20);
    }

    /** Where the fault of one byte, behind what is already there, is. */
    private static void eachByte(String ahead, int what, String goesOn, String ends) {
        for (int b = 1; b <= 255; b++) {
            String text = ahead + (char) b;
            int want = goesOn.indexOf(b) >= 0 ? text.length() : ends.indexOf(b) >= 0 ? -1 : ahead.length();
            due("fault(" + what + ") of '" + ahead + "' and byte " + b, new Calls().fault(text, what), want);
        }
    }
    private static void anyOtherByte() {
        Calls.sentence("Terms", "FAULT: any other byte; the length, if it ends too early");
        String letters = "abcdefghijklmnopqrstuvwxyz";
        String leaves = letters + "0123456789TU*";
        String ops = " /@:&?,[]+<";
        eachByte("", 0, ops, leaves);
        eachByte("  ", 0, ops, leaves);
        eachByte("[", 0, ops, leaves);
        eachByte("@x", 0, ops, leaves);
        eachByte("?TT", 0, ops, leaves);
        eachByte("+1", 0, ops + "0123456789", letters + "TU*");
        eachByte("+12", 0, ops, letters + "TU*");
        eachByte("/", 0, letters + " ", "");
        eachByte("&", 0, letters + " ", "");
        eachByte("/x", 0, ops, leaves);
        eachByte("&x", 0, leaves + ops, "");
        eachByte("x", 0, "", " ");
        eachByte("T", 0, "", " ");
        eachByte("1", 0, "", " 0123456789");
        eachByte("12", 0, "", " ");
        eachByte("1 ", 0, "", " ");
        eachByte(":1", 0, " >,!0123456789", "NBO");
        eachByte(":T", 0, " >,!", "NBO");
        eachByte("", 1, " >,!", "NBO");
        eachByte("!", 1, letters + " ", "");
        eachByte("!q", 1, " >,!", "NBOq");
        eachByte(">N", 1, " >,!", "NBO");
        eachByte("N", 1, "", " ");
        eachByte("", 2, " >,!NBO", "");
        eachByte("N", 2, " >,!", "NBO");
        eachByte("!qq", 2, " >,!", "NBO");
        eachByte("NB", 2, "", " ");
    }

    private static void endsTooEarly() {
        Calls.sentence("Terms", "FAULT: the length, if it ends too early");
        for (String text : new String[] {"/x@+1 [xx", ":/x x !a > a , N B", "&i/xx?T@i1 ]:,1T,N!bB", "  <  1  x"}) {
            for (int n = 0; n < text.length(); n++) {
                Calls c = new Calls().tape(text);
                c.x.end(n);
                due("fault of the first " + n + " of " + text, c.x.fault(0), n);
                due("infers() of the first " + n + " of " + text, c.x.infers(), -1);
            }
            fault(text, 0, -1);
        }
        for (String text : new String[] {"!a>a!b,bB >NO", " N  ,N!aa"}) {
            for (int n = 0; n < text.length(); n++) {
                Calls c = new Calls().tape(text);
                c.x.end(n);
                due("fault(2) of the first " + n + " of " + text, c.x.fault(2), n);
                due("below() of the first " + n + " of " + text, c.x.below(), -1);
            }
            fault(text, 2, -1);
        }
    }

    // ---- signs and ranks ----

    private static void ranks() {
        Calls.sentence("Terms", "RANK of a TYPE");
        Object[][] all = {
            {"N", 0}, {">N>,NBO", 0}, {"!aN", 1}, {"!a!b!cN", 1}, {"!a>!bbN", 2}, {">N!aa", 1}, {">!aaN", 2}, {">!aa!bb", 2}, {">!aa>!bb>!ccN", 2},
            {">>!aaNN", 3}, {">>>!aaNNN", 4}, {">>N!aaN", 2}, {">>NNN", 0}, {",N!aa", 1}, {",!aaN", 1}, {",>!aaNN", 2}, {",N>!aaN", 2}, {">,!aaNN", 2},
            {">,N>!aaN O", 3}, {"!a>>a!bbN", 2}, {">!a>!bbNN", 3}, {",>!aaN>>!bbNN", 3}, {">>!aaN!bb", 3}, {">N>>!aaNN", 3}
        };
        for (Object[] one : all) due("RANK of " + one[0], new Calls().tells(one[0] + "N", 1), (Integer) one[1]);
        // the highest that a text can have
        due("RANK of 19 within one another", new Calls().tells(Calls.times(">", 18) + "!aN" + Calls.times("N", 18) + "N", 1), 19);
        Calls.sentence("Terms", "SIGNS of a TYPE: of all TYPES within it, it too, one each");
        Object[][] signs = {{"N", 1}, {"!aa", 2}, {"! a a", 2}, {">NB", 3}, {"!a!b>ab", 5}, {",,NNN", 5}};
        for (Object[] one : signs) due("SIGNS of " + one[0], new Calls().tells(one[0] + "N", 0), (Integer) one[1]);
    }

    // ---- more than 150 signs ----

    /** Expressions that are of types of 150 and 151 signs, and types of that many. */
    private static final String E150 = ",:/xx!a>aa" + Calls.tree(",", 73, "T");
    private static final String E151 = Calls.tree(",", 76, "T");
    private static final String T150 = "!a" + Calls.tree(",", 75, "N");
    private static final String T151 = Calls.tree(",", 76, "N");

    private static void ends(String text, int verdict, int steps, int lastRule, String context) {
        Calls c = new Calls();
        due("infers() of " + text, c.infers(text), verdict);
        due("steps of " + text, c.x.judged(1), steps);
        due("the last rule of " + text, c.x.step(c.x.judged(1) - 1, 0), lastRule);
        due("context of " + text, c.context(), context);
        if (verdict == 2) {
            due("judged(6)", c.x.judged(6), -1);
            due("judged(7)", c.x.judged(7), 0);
            due("judged(8)", c.x.judged(8), -1);
            due("type", c.type(), "none");
            due("keeps(0)", c.x.keeps(0), -1);
        }
    }
    private static void tooManySigns() {
        String words = "wherever one so taken has more than 150 SIGNS, it is TOO LONG";
        Calls.sentence("2, the TYPE at the end", words);
        ends(E150, 0, 152, 8, "");
        ends(E151, 2, 151, 8, "");
        Calls.sentence("2, a LET that is inferred", words);
        ends("&a" + E150 + "1", 0, 154, 8, "");
        ends("&a" + E151 + "1", 2, 152, 8, "");
        Calls.sentence("2, a LET that is checked", words);
        ends(":&a" + E150 + "1N", 0, 157, 22, "");
        ends(":&a" + E151 + "1N", 2, 153, 8, "");
        Calls.sentence("2, the first of a PAIR", words);
        ends("[" + E150, 0, 153, 8, "");
        ends("[" + E151, 2, 152, 8, "");
        ends("]" + E151, 2, 152, 8, "");
        // too long comes ahead of what would fail, or would make a GUESS
        ends("[/x1", 1, 6, 32, "^0 ^1=N");
        ends("[/x" + Calls.tree(",", 75, "T"), 2, 154, 32, "^0 ^1=" + Calls.tree(",", 75, "B"));
        Calls c = new Calls();
        c.keeps(Calls.tree(",", 36, "/x1"), 'a');
        due("SIGNS of the TYPE", c.x.shelf(0, 1), 179);
        for (String text : new String[] {"[a", "]a", "@a1", "&xa1", ":aN", "a"}) {
            due("infers() of " + text, c.infers(text), 2);
            due("GUESSES made by " + text, c.x.judged(2), 0);
            due("ENTRIES with " + text, c.x.judged(4), 1);
        }
        Calls.sentence("2, what an EXPRESSION is checked against", words);
        ends(":1" + T150, 1, 5, 0, "c0");
        ends(":1" + T151, 2, 1, 9, "");
        Calls.sentence("2, what is applied", words);
        ends("@" + E150 + "1", 1, 154, 0, "");
        ends("@" + E151 + "1", 2, 152, 8, "");
        Calls.sentence("2, what is below", words);
        ends(":" + E150 + "N", 1, 155, 0, "");
        ends(":" + E151 + "N", 2, 153, 8, "");
    }

    /** More than 150 SIGNS that are not yet taken BY the CONTEXT: what stands behind them is inferred first. */
    private static void tooManySignsWithin() {
        Calls.sentence("2, within a PAIR", "wherever one so taken has more than 150 SIGNS, it is TOO LONG");
        ends("," + E151 + "1", 2, 153, 8, "");
        ends(",1" + E151, 2, 153, 8, "");
        ends(",1," + E151 + ",1T", 2, 157, 8, "");
        ends("," + E151 + "z", 1, 153, 0, "");
        Calls.sentence("2, of a then", "wherever one so taken has more than 150 SIGNS, it is TOO LONG");
        ends("?T" + E151 + "1", 2, 155, 8, "");
        ends("?T" + E151 + "z", 2, 155, 8, "");
    }

    /** A PAIR of what the note says and of two that are of 73 SIGNS BY the CONTEXT, of one each without it. */
    private static String solved(String note) { return ",@:/y" + note.replace("TO", "x,xx"); }
    private static void grownIn(String words, String text) {
        String big = ">" + Calls.tree(",", 37, "N");
        String wants = "wherever one so taken has more than 150 SIGNS, it is TOO LONG";
        Calls.sentence("2, " + words, wants);
        Calls c = new Calls();
        due("infers() with 149", c.infers(text.replace("HERE", solved("1" + big + "NTO"))), 0);
        due("infers() with 150", c.infers(text.replace("HERE", solved("1" + big + "!aNTO"))), 0);
        due("infers() with 151", c.infers(text.replace("HERE", solved(",1 1" + big + ",NNTO"))), 2);
        due("type with 151", c.type(), "none");
        due("where with 151", c.x.judged(6), -1);
        due("the last kind with 151", c.x.step(c.x.judged(1) - 1, 5), 1);
        due("the last rule with 151", c.x.step(c.x.judged(1) - 1, 0), 7);
    }
    private static void tooManySignsByTheContext() {
        grownIn("a LET that is checked", "/x&uHERE*");
        grownIn("a LET that is inferred", "/x[,&uHERE*1");
        grownIn("what is in a [", "/x[HERE");
        grownIn("what is in a ]", "/x[]HERE");
    }

    /** The TYPE of x gets known only as what must be below it is inferred: it grows from 6 signs to so many. */
    private static void grown(String part, int verdict, int lastRule) {
        String big = Calls.tree(",", 37, "N");
        Calls c = new Calls();
        due("infers() with " + part, c.infers("/x&u?T," + part + ",xx],@:/y1>" + big + "N x*u"), verdict);
        due("the last rule with " + part, c.x.step(c.x.judged(1) - 1, 0), lastRule);
        due("the last kind with " + part, c.x.step(c.x.judged(1) - 1, 5), verdict == 1 ? 3 : 1);
        due("signs with " + part, c.x.step(c.x.judged(1) - 1, 4), verdict == 1 ? 151 : 0);
    }
    private static void tooManySignsAbove() {
        Calls.sentence("2, what it is below", "wherever one so taken has more than 150 SIGNS, it is TOO LONG");
        grown(":1!aN", 1, 0);
        grown(",1 1", 2, 8);
        Calls c = new Calls();
        due("below() of 150 and 1", c.below(T150 + "N"), 1);
        due("its steps", c.steps(4), "151 150");
        due("below() of 1 and 150", c.below("N" + T150), 1);
        due("its steps", c.steps(4), "151 150");
        due("below() of 150 and 150", c.below("!aN" + T150), 1);
        due("below() of 151 and 1", c.below(T151 + "N"), 2);
        due("its steps", c.x.judged(1), 0);
        due("below() of 1 and 151", c.below("N" + T151), 2);
        due("its steps", c.x.judged(1), 0);
        due("most entries", c.x.judged(5), 0);
        due("entries", c.x.judged(4), 0);
    }

    // ---- 300 steps ----

    /** So many steps (two or more), then those of the text. */
    private static String behind(int steps, String text) {
        int sum = (steps + 4) / 6;
        int left = steps - (6 * sum - 4);
        return Calls.times("[", left % 2) + Calls.times(",T", left / 2) + "," + Calls.tree("+", sum, "1 ") + text;
    }
    private static void tooManySteps() {
        Calls.sentence("2", "TOO LONG, too, is a STEP (it is not noted) with 300 ahead of it");
        boolean[] kinds = new boolean[6];
        for (String text : new String[] {":1N", "/xx", "@/x1 2", "@:/x1!a>,aaN,1 2", "/x:x,NB", "?T1 2"}) {
            Calls alone = new Calls();
            due("infers() of " + text, alone.infers(text), 0);
            for (int i = 0; i <= alone.x.judged(1); i++) {
                Calls c = new Calls();
                boolean all = i == alone.x.judged(1);
                due("infers() of " + text + " with " + i + " steps left", c.infers(behind(300 - i, text)), all ? 0 : 2);
                due("its steps", c.x.judged(1), 300);
                due("the 301st throws", c.noStep(300, 0) ? 1 : 0, 1);
                for (int k = 0; k < i; k++) due("rule of the step " + k + " of " + text, c.x.step(300 - i + k, 0), alone.x.step(k, 0));
                due("where", c.x.judged(6), -1);
                due("most steps", c.x.count(2), 300);
                if (!all) kinds[alone.x.step(i, 5)] = true;
            }
        }
        for (int kind = 0; kind < 6; kind++) due("a step of kind " + kind + " was the 301st", kinds[kind] ? 1 : 0, 1);
        // what fails at its 300th step fails
        Calls c = new Calls();
        due("infers() of what fails at its 300th", c.infers(behind(299, "z")), 1);
        due("its steps", c.x.judged(1), 300);
        due("its rule", c.x.step(299, 0), 0);
        due("infers() of what would fail at its 301st", c.infers(behind(300, "z")), 2);
    }

    // ---- 120 entries ----

    private static void tooManyEntries() {
        Calls.sentence("2", "TOO LONG, as the CONTEXT has more than 120 ENTRIES");
        // each [p brings seven guesses; the names of the shelf are entries too
        for (int names = 1; names <= 8; names++) {
            Calls c = new Calls();
            c.keeps(",1" + Calls.tree(",", 7, "/xx"), 'p');
            for (int i = 1; i < names; i++) c.keeps("1", (char) ('a' + i));
            int fit = (120 - names) / 7;
            due("infers() with 120 at most", c.infers("," + Calls.tree(",", fit, "[p") + "1"), 0);
            due("most", c.x.judged(5), names + 7 * fit);
            due("infers() with more than 120", c.infers("," + Calls.tree(",", fit + 1, "[p") + "1"), 2);
            due("most of those noted", c.x.judged(5), names + 7 * fit);
            due("entries at the end", c.x.judged(4), names + 7 * (fit + 1));
            due("where", c.x.judged(6), -1);
            due("with more than 120, and no step behind it", c.infers(Calls.tree(",", fit + 1, "[p")), 0);
            due("entries at the end", c.x.judged(4), names + 7 * (fit + 1));
        }
        Calls.sentence("2", "all stays as it is then likewise");
        Calls c = new Calls();
        c.keeps(",1" + Calls.tree(",", 7, "/xx"), 'p');
        c.infers(",:/xx!a>aa,/y" + Calls.tree(",", 17, "[p") + "1");
        due("it is too long", c.x.judged(0), 2);
        due("the first entries", c.context().replaceAll("^(\\S+ \\S+ \\S+ \\S+) .*", "$1"), "p:!a!b!c!d!e!f!g,N,,>aa,>bb>cc,,>dd>ee,>ff>gg ^0 ^1 y:^0");
    }

    // ---- what is told round again ----

    private static void toldAgain() {
        Calls.sentence("3", "z is followed by a");
        for (int n : new int[] {1, 25, 26, 27, 34}) {
            Calls c = new Calls();
            String half = Calls.times("!x", n / 2) + "N";
            c.infers(",:1" + half + ":1" + Calls.times("!x", n - n / 2) + "N");
            StringBuilder want = new StringBuilder(",");
            for (int i = 0; i < n; i++) {
                if (i == n / 2) want.append('N');
                want.append('!').append((char) ('a' + i % 26));
            }
            due(n + " ALLS", c.type(), want + "N");
        }
        Calls.sentence("3", "GUESSES ^ and a digit 0 .. 9 (the 11th: 0 again)");
        for (int n : new int[] {1, 9, 10, 11, 12, 20, 21}) {
            Calls c = new Calls();
            c.infers(Calls.tree(",", n, "/x1"));
            StringBuilder want = new StringBuilder();
            for (int i = 0; i < n; i++) want.append('^').append(i % 10);
            due(n + " GUESSES", c.type().replaceAll("[,>N]", ""), want.toString());
            due(n + " GUESSES counted", c.x.judged(7), n);
        }
        Calls c = new Calls();
        c.infers("," + Calls.tree(",", 10, "/x1") + ",/x/y,yx/z,zz");
        due("as they are come to, each as it was ahead", c.type().replaceAll(".*>\\^9N", ""), ",>^0>^1,^1^0>^2,^2^2");
        Calls.sentence("3", "CONSTANTS # and likewise");
        String all = "abcdefghijkl";
        for (int n : new int[] {2, 10, 11, 12}) {
            StringBuilder type = new StringBuilder(":/xz");
            for (int i = 0; i < n; i++) type.append('!').append(all.charAt(i));
            // in the order against that in which they are made
            type.append('>').append(pairs(all.substring(0, n))).append('N');
            Calls d = new Calls();
            due("infers() of " + type, d.infers(type.toString()), 1);
            StringBuilder want = new StringBuilder();
            for (int i = 0; i < n; i++) want.append('#').append(i % 10);
            StringBuilder got = new StringBuilder();
            for (int k = 0; k < d.x.entryType(n, -1); k++) got.append((char) d.x.entryType(n, k));
            due(n + " CONSTANTS", got.toString().replace(",", ""), want.toString());
        }
    }
    /** Both in one type: each kind is counted on its own. */
    private static void toldOfBoth() {
        Calls.sentence("3", "GUESSES ^ and a digit, as they are come to, CONSTANTS # and likewise");
        Calls c = new Calls();
        c.infers(":/x&p,x/yyz!a>aN");
        due("one of each", c.context(), "c0 x:#0 ^0 ^1=^0 p:,#0>^0^0");
        c.infers(":/x/y&p,y,/uu,x/vvz!a!b>a>bN");
        due("two of each, the later constant first", c.context(), "c0 c1 x:#0 y:#0 ^0 ^1=^0 ^2 ^3=^0 p:,#0,>^0^0,#1>^1^1");
        c.infers(":/x&p:/y/zy!c!d>c>dc&q,x,p/uuz!a>aN");
        due("with ALLS, which are named on their own", c.context(), "c0 x:#0 p:!a!b>a>ba ^0 ^1=^0 q:,#0,!a!b>a>ba>^0^0");
    }
    private static String pairs(String names) {
        int half = names.length() / 2;
        return names.length() == 1 ? names : "," + pairs(names.substring(half)) + pairs(names.substring(0, half));
    }

    private static void numberedAnew() {
        Calls.sentence("2", "numbered from 0 on as they are made");
        Calls c = new Calls();
        for (int i = 0; i < 3; i++) {
            c.infers("/f@f1");
            due("context", c.context(), "^2 ^3=N ^0=>^0^1 ^1=^0");
            due("entry(0, 1)", c.x.entry(0, 1), 2);
            due("GUESSES made", c.x.judged(2), 4);
            c.infers(":/x/yz!a>a!b>ba");
            due("context", c.context(), "c0 x:#0 c1 y:#0");
            due("CONSTANTS made", c.x.judged(3), 2);
            c.below("!a>a!b>ba >N>NB");
            due("context", c.context(), "m0 ^0=N m1 ^1=N");
        }
    }

    private static void firstOutermost() {
        Calls.sentence("3", "its open GUESSES are ALL: of several the first one outermost");
        String[][] all = {{"1", "N"}, {"/xx", "!a>aa"}, {"/x/yy", "!a!b>a>bb"}, {"/x/yx", "!a!b>a>ba"}, {"/p,]p[p", "!a!b>,ab,ba"}, {"/f/x@fx", "!a!b>>ab>ab"},
            {",/xx,:/yy!b>bb:/x/yx!b!a>b>ab", "!a,>aa,!b>bb!c!d>c>dc"}, {",:/yy!b>bb,/xx/x/yy", "!a!b!c,!d>dd,>aa>b>cc"}};
        for (String[] one : all) {
            Calls c = new Calls();
            c.keeps(one[0], 'k');
            due("TYPE of " + one[0], c.shelfType(0), one[1]);
            c.infers("k");
            due("TYPE of it as a NAME", c.type(), one[1]);
            due("below itself", c.x.shelfBelow(0, 0), 0);
        }
    }

    // ---- values ----

    private static final String ROUND = "&f/x+1+xx&a" + Calls.times("@f", 15) + "0&b" + Calls.times("@f", 15) + "a";

    private static void worked(String text, int how, int paces, int kind, int number) {
        Calls c = new Calls();
        c.infers(text);
        due("worked(0) of " + text, c.x.worked(0), how);
        due("worked(1) of " + text, c.x.worked(1), paces);
        due("worked(2) of " + text, c.x.worked(2), kind);
        due("worked(3) of " + text, c.x.worked(3), number);
    }
    /** A function that calls itself within sums; none of these is worked out before the last call is: so many wait at once. */
    private static String calls(int sums, int times) {
        return "&f/g/n?<n " + times + Calls.times("+", sums) + "@@gg+n1" + Calls.times(" 1", sums) + " 0@@ff0";
    }
    private static void manyWait() {
        Calls.sentence("3", "WORKED OUT from the left: + < both");
        int[][] all = {{1, 27}, {1, 28}, {5, 17}, {5, 18}, {13, 10}, {13, 11}};
        for (int[] one : all) {
            // 8 ahead, 5 behind; a call has a ?, a <, two numbers, two @, two g, one function, what it is called with, the sums
            int paces = 8 + 5 + one[1] * (12 + 2 * one[0]);
            boolean tired = paces > 400;
            worked(calls(one[0], one[1]), tired ? 1 : 0, Math.min(400, paces), tired ? -1 : 0, tired ? 0 : one[0] * one[1]);
        }
    }
    private static void goRound() {
        Calls.sentence("3", "numbers (ints that go round)");
        // 2 n + 1 of 0, thirty times: half of the greatest int
        worked(ROUND + "b", 0, 217, 0, (1 << 30) - 1);
        worked(ROUND + "@fb", 0, 224, 0, Integer.MAX_VALUE);
        worked(ROUND + "+1@fb", 0, 226, 0, Integer.MIN_VALUE);
        worked(ROUND + "+@fb@fb", 0, 233, 0, -2);
        worked(ROUND + "+2+@fb@fb", 0, 235, 0, 0);
        worked(ROUND + "<@fb+1@fb", 0, 235, 1, 0);
        worked(ROUND + "<+1@fb@fb", 0, 235, 1, 1);
    }

    private static void aMillion() {
        Calls.sentence("promise 16", "the number of VALUES in PAIRS within it, it too (1,000,000 at most)");
        StringBuilder s = new StringBuilder("&a*");
        for (int i = 0; i < 6; i++) s.append("&a,a,,aa,aa");
        s.append("&a,,aa,aa&a,,aa,aa");
        int paces = 2 + 6 * 10 + 2 * 8;
        // a PAIR of twice 250,000 that are none, with a PAIR less than these
        worked(s + "a", 0, paces + 1, 3, 499999);
        worked(s + ",aa", 0, paces + 3, 3, 999999);
        worked(s + ",*,aa", 0, paces + 5, 3, 1000000);
        worked(s + ",,aa*", 0, paces + 5, 3, 1000000);
        worked(s + ",,aa,aa", 0, paces + 7, 3, 1000000);
        worked(s + "],*,aa", 0, paces + 6, 3, 999999);
    }

    public static void main(String[] args) {
        numbers();
        blanks();
        variables();
        depth();
        anyOtherByte();
        endsTooEarly();
        ranks();
        tooManySigns();
        tooManySignsWithin();
        tooManySignsByTheContext();
        tooManySignsAbove();
        tooManySteps();
        tooManyEntries();
        toldAgain();
        toldOfBoth();
        numberedAnew();
        firstOutermost();
        manyWait();
        goRound();
        aMillion();
        Calls.ends("EdgeTermsTest");
    }
}
