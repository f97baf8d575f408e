/** Promises 5 to 11 and 21: infers, below, judged, type, step, entry, entryType, byRule. */
public final class JudgeTest {
    private static void due(String what, long got, long want) { Calls.due(what, got, want); }
    private static void due(String what, String got, String want) { Calls.due(what, got, want); }

    private static void verdicts() {
        Calls.promise(5);
        Calls c = new Calls();
        due("infers() of 1", c.infers("1"), 0);
        due("its tape", c.x.count(0), 0);
        due("infers() of a fault", c.infers("@11"), -1);
        due("its tape stays", c.x.count(0), 3);
        due("the judgement stays", c.type(), "N");
        due("infers() of +1T", c.infers("+1T"), 1);
        due("its tape", c.x.count(0), 0);
        due("no type", c.type(), "none");
        due("infers() of too long a type", c.infers(Calls.tree(",", 76, "T")), 2);
        due("its tape", c.x.count(0), 0);
        due("no type", c.type(), "none");
        due("infers() of an empty tape", c.infers(""), -1);
        due("the judgement stays", c.x.judged(0), 2);
        // arguments of any rank must be noted
        due("f of two types, noted", c.infers(":/f,@f1@fT>!a>aa,NB"), 0);
        due("f of two types, not noted", c.infers("/f,@f1@fT"), 1);
        due("a guess within itself", c.infers("/x@xx"), 1);
        due("of a noted one", c.infers("/x@:xN1"), 1);
        due("a noted rank", c.infers(":/x@xx>!a>aa!b>bb"), 0);
        due("what is put must be of all types", c.infers("@:/f,@f1@fT>!a>aa,NB/x+x1"), 1);
        due("it is", c.infers("@:/f,@f1@fT>!a>aa,NB/xx"), 0);
    }

    private static void types() {
        Calls.promise(8);
        String[][] all = {
            {"x", "none"}, {"0", "N"}, {"T", "B"}, {"U", "B"}, {"*", "O"}, {"/xx", ">^0^0"}, {"/x1", ">^0N"}, {"/x/yx", ">^0>^1^0"},
            {"/x/yy", ">^0>^1^1"}, {"/f/x@fx", ">>^0^1>^0^1"}, {"/f@f1", ">>N^0^0"}, {"/p+[p]p", ">,NNN"}, {"/p,]p[p", ">,^0^1,^1^0"},
            {"@/x+x1 41", "N"}, {":/xx>NN", ">NN"}, {":/xx!z>zz", "!a>aa"}, {"&i:/xx!a>aa,@i1@iT", ",NB"}, {"&x1/y,xy", ">^0,N^0"},
            {"?T1 2", "N"}, {"/x?x1 2", ">BN"}, {"<1 2", "B"}, {",:/xx!b>bb:/x/yx!b!a>b>ab", ",!a>aa!b!c>b>cb"}, {"[,1T", "N"}, {"],1T", "B"},
            {"[:,/xx1!a,>aaN", ">^0^0"}, {"/f/g/x@f@gx", ">>^0^1>>^2^0>^2^1"}, {":/x/yx!a>a!b>ba", "!a>a!b>ba"}, {"@:/x/yx!a>a!b>ba 1", "!a>aN"},
            {"/x[x", ">,^0^1^0"}, {"/x]x", ">,^0^1^1"}, {"&xT?x*x", "none"}, {"&xT?x*:**", "none"}, {"&xT?x* *", "O"}
        };
        for (String[] one : all) {
            Calls c = new Calls();
            c.infers(one[0]);
            due("type of " + one[0], c.type(), one[1]);
            int n = one[1].equals("none") ? -1 : one[1].length();
            due("type(-1) of " + one[0], c.x.type(-1), n);
            due("the sign behind all of " + one[0], c.x.type(Math.max(n, 0)), -1);
            due("type(-2)", c.x.type(-2), -1);
            due("type of the greatest int", c.x.type(Integer.MAX_VALUE), -1);
            due("type of the least int", c.x.type(Integer.MIN_VALUE), -1);
        }
        Calls c = new Calls();
        // the 11th guess is told as 0 again, the 27th ALL as a
        c.infers(Calls.tree(",", 11, "/x1"));
        due("eleven guesses", c.type(), ",,,>^0N>^1N,>^2N,>^3N>^4N,,>^5N,>^6N>^7N,>^8N,>^9N>^0N");
        due("eleven guesses, counted", c.x.judged(7), 11);
        due("26 ALLS and one more", c.infers(",:1" + Calls.times("!x", 13) + "N,:1" + Calls.times("!x", 13) + "N:/xx!x>xx"), 0);
        due("26 ALLS and one more", c.type(), ",!a!b!c!d!e!f!g!h!i!j!k!l!mN,!n!o!p!q!r!s!t!u!v!w!x!y!zN!a>aa");
    }

    private static void judged() {
        Calls.promise(7);
        // text, verdict, steps, guesses, constants, entries, most entries, where it fails, open ones, rank
        Object[][] all = {
            {"1", 0, 1, 0, 0, 0, 0, -1, 0, 0}, {"/x x", 0, 5, 2, 0, 2, 3, -1, 1, 0}, {":/xx!a>aa", 0, 6, 0, 1, 0, 2, -1, 0, 1},
            {":/f,@f1@fT>!a>aa,NB", 0, 23, 2, 0, 0, 3, -1, 0, 2}, {"/f@f1", 0, 11, 4, 0, 4, 5, -1, 1, 0}, {"@/x+x1 41", 0, 17, 2, 0, 2, 3, -1, 0, 0},
            {"&i:/xx!a>aa,@i1@iT", 0, 24, 2, 1, 2, 3, -1, 0, 0}, {"z", 1, 1, 0, 0, 0, 0, 0, 0, -1}, {"@1 2", 1, 3, 0, 0, 0, 0, 1, 0, -1},
            {"[1", 1, 2, 0, 0, 0, 0, 1, 0, -1}, {":1!a>aa", 1, 5, 0, 1, 1, 1, 1, 0, -1}, {"/x@xx", 1, 8, 4, 0, 5, 5, 4, 0, -1},
            {"+1T", 1, 7, 0, 0, 0, 0, 2, 0, -1}, {"  + 1  z", 1, 6, 0, 0, 0, 0, 7, 0, -1}, {":/x/yx!a>a!b>ba", 0, 8, 0, 2, 0, 4, -1, 0, 1},
            {":/f1>>!a>aaNN", 0, 5, 0, 0, 0, 1, -1, 0, 3}, {",:/xx!a>aa/yy", 0, 12, 2, 1, 2, 3, -1, 1, 1}
        };
        for (Object[] one : all) {
            Calls c = new Calls();
            due("infers() of " + one[0], c.infers((String) one[0]), (Integer) one[1]);
            for (int what = 0; what <= 8; what++) due("judged(" + what + ") of " + one[0], c.x.judged(what), (Integer) one[what + 1]);
            for (int what : new int[] {-1, 9, Integer.MIN_VALUE, Integer.MAX_VALUE}) due("judged(" + what + ")", c.x.judged(what), -1);
        }
    }

    private static void steps() {
        Calls.promise(9);
        Calls c = new Calls();
        c.infers("/f@f1");
        due("rules", c.steps(0), "10 6 11 7 18 6 8 24 32 23 28");
        due("entries", c.steps(1), "0 3 3 3 3 5 5 5 5 5 5");
        due("in how many", c.steps(2), "0 1 2 3 3 4 5 5 6 2 3");
        due("bytes", c.steps(3), "0 2 2 3 4 4 4 -1 -1 -1 -1");
        due("signs", c.steps(4), "0 1 0 0 1 1 0 2 1 2 1");
        due("kinds", c.steps(5), "1 0 1 1 2 0 1 3 5 3 4");
        c.infers("&i:/xx!a>aa,@i1@iT");
        due("rules", c.steps(0), "12 9 1 2 6 7 22 14 11 7 17 19 6 8 24 32 11 7 17 19 6 8 24 32");
        due("entries", c.steps(1), "0 0 0 1 2 2 2 1 1 1 1 2 2 2 2 2 2 2 2 3 3 3 3 3");
        due("in how many", c.steps(2), "0 1 2 3 4 5 5 1 2 3 3 4 5 6 6 7 2 3 3 4 5 6 6 7");
        due("bytes", c.steps(3), "0 2 3 3 5 5 -1 11 12 13 14 14 14 14 -1 -1 15 16 17 17 17 17 -1 -1");
        due("signs", c.steps(4), "0 0 4 3 1 0 2 0 0 0 4 3 1 0 2 1 0 0 4 3 1 0 2 1");
        due("kinds", c.steps(5), "1 1 0 0 0 1 3 1 1 1 2 2 0 1 3 5 1 1 2 2 0 1 3 5");
        c.infers(":?TTU B");
        due("rules of ?", c.steps(0), "9 4 6 8 22 6 8 22 6 8 22");
        c.infers("?T1 2");
        due("rules of ?", c.steps(0), "13 6 8 22 8 6 8 22");
        c.infers(":,1&xTx,NB");
        due("rules of a pair, a let", c.steps(0), "9 3 6 8 22 5 8 6 7 22");
        c.infers("[/xx");
        due("rule 15, as it fails behind it", c.steps(0), "15 10 6 7 23 28");
        c.infers("z");
        due("a name there is not", c.steps(0), "0");
        c.infers("/x:x!a,aa");
        due("30", c.steps(0), "10 6 9 1 6 7 23 30 0");
        due("30", c.context(), "^2 ^3 ^0=,^0^1 ^1 x:^0 c0");
        c.infers("@/x[x/yy");
        due("an arrow is no pair", c.x.judged(0), 1);
        for (int i : new int[] {-1, c.x.judged(1), Integer.MIN_VALUE, Integer.MAX_VALUE}) due("step(" + i + ", 0) throws", c.noStep(i, 0) ? 1 : 0, 1);
        for (int what : new int[] {-1, 6, Integer.MIN_VALUE, Integer.MAX_VALUE}) due("step(0, " + what + ") throws", c.noStep(0, what) ? 1 : 0, 1);
        due("step(0, 0) throws nothing", c.noStep(0, 0) ? 1 : 0, 0);
        due("step of the last one", c.noStep(c.x.judged(1) - 1, 5) ? 1 : 0, 0);
    }

    private static void below() {
        Calls.promise(6);
        // two types, verdict, rules
        String[][] all = {
            {"NN", "0", "22"}, {"BB", "0", "22"}, {"OO", "0", "22"}, {"NB", "1", "0"}, {"!a>aa>NN", "0", "21 25 24 32 22"}, {">NN!a>aa", "1", "20 25 0"},
            {"!a>a!b>ba !a!b>a>ba", "0", "20 20 21 25 24 32 21 25 24 32 22"}, {">!a>aaN >>NNN", "1", "25 20 25 0"}, {">>NNN >!a>aaN", "0", "25 21 25 24 32 22 22"},
            {",NB ,NB", "0", "26 22 22"}, {",NB >NB", "1", "0"}, {"!aa N", "0", "21 23 27"}, {"N !aa", "1", "20 0"}, {"!aa !aa", "0", "20 21 23 27"}, {"!aa !a>aa", "0", "20 21 23 27"},
            {"!aa >!bbN", "0", "21 23 29 36 33 27"}, {"!aa >N!bb", "1", "21 23 29 32 31 0"}, {"!a!b>ab !a!b>ba", "0", "20 20 21 21 25 24 32 23 27"}
        };
        for (String[] one : all) {
            Calls c = new Calls();
            due("below() of " + one[0], c.below(one[0]), Integer.parseInt(one[1]));
            due("its tape", c.x.count(0), 0);
            due("rules of " + one[0], c.steps(0), one[2]);
            due("judged(0)", c.x.judged(0), Integer.parseInt(one[1]));
            due("where it fails", c.x.judged(6), -1);
            due("open guesses", c.x.judged(7), 0);
            due("rank", c.x.judged(8), -1);
            due("type", c.type(), "none");
            due("bytes", c.steps(3).replaceAll("[ 1-]", ""), "");
        }
        Calls c = new Calls();
        c.infers("/xx");
        due("below() of a fault", c.below("N"), -1);
        due("its tape stays", c.x.count(0), 1);
        due("the judgement stays", c.type(), ">^0^0");
        due("below() of three", c.below("NNN"), -1);
        due("below() of an open variable", c.below("!aaa"), -1);
        due("the shelf is not in it", c.x.keeps(0), 1);
        due("below() with a shelf", c.below("NB"), 1);
        due("its entries", c.x.judged(4), 0);
    }

    private static void contexts() {
        Calls.promise(10);
        // text, the context at the end
        String[][] all = {
            {"1", ""}, {"/x x", "^0 ^1=^0"}, {"/f@f1", "^2 ^3=N ^0=>^0^1 ^1=^0"}, {"/p+[p]p", "^2=N ^3=N ^0=,^0^1 ^1=N"}, {"/x@xx", "^2 ^3 ^0=>^0^1 ^1 x:^0"},
            {":1!a>aa", "c0"}, {"&x1/y,xy", "^0 ^1=,N^0"}, {"&x1/yz", "x:N ^0 ^1 y:^0"}, {":/x/yz!a>a!b>ba", "c0 x:#0 c1 y:#0"}
        };
        for (String[] one : all) {
            Calls c = new Calls();
            c.infers(one[0]);
            due("context of " + one[0], c.context(), one[1]);
            int n = c.x.judged(4);
            for (int i : new int[] {-1, n, Integer.MAX_VALUE, Integer.MIN_VALUE}) {
                for (int what = 0; what < 3; what++) due("entry(" + i + ", " + what + ")", c.x.entry(i, what), -1);
                due("entryType(" + i + ", -1)", c.x.entryType(i, -1), -1);
            }
            for (int what : new int[] {-1, 3, Integer.MAX_VALUE}) due("entry(0, " + what + ")", c.x.entry(0, what), -1);
        }
        Calls c = new Calls();
        due("below, a mark", c.below("!a>aa>NB"), 1);
        due("marks and guesses", c.context(), "m0 ^0=N");
        due("number of the mark", c.x.entry(0, 1), 0);
        due("signs of the mark", c.x.entry(0, 2), 0);
        due("a mark has no type", c.x.entryType(0, -1), -1);
        due("signs of the solved one", c.x.entry(1, 2), 1);
        due("two marks", c.below("!a>a!b>ba >N>NB"), 1);
        due("their numbers", c.context(), "m0 ^0=N m1 ^1=N");
        c.infers("/f@f1");
        Calls.promise(11);
        due("entryType(2, -1)", c.x.entryType(2, -1), 5);
        due("entryType(2, 0)", c.x.entryType(2, 0), '>');
        due("entryType(2, 4)", c.x.entryType(2, 4), '1');
        due("entryType(2, 5)", c.x.entryType(2, 5), -1);
        due("entryType(2, -2)", c.x.entryType(2, -2), -1);
        due("entryType(0, -1) of an open one", c.x.entryType(0, -1), -1);
        due("entryType(0, 0) of an open one", c.x.entryType(0, 0), -1);
        due("signs of an open one", c.x.entry(0, 2), 0);
        due("it stands as it was solved", c.x.entryType(3, -1), 2);
        c.keeps("/xx", 'q');
        c.infers("@q1");
        due("the shelf is ahead of all", c.context(), "q:!a>aa ^0=N");
        due("signs of what is on the shelf", c.x.entry(0, 2), 4);
        due("its kind", c.x.entry(0, 0), 1);
        due("its name", c.x.entry(0, 1), 16);
    }

    private static void limitOfSigns() {
        Calls.promise(5);
        Calls c = new Calls();
        due("149 signs", c.infers(Calls.tree(",", 75, "T")), 0);
        due("149 signs told", c.x.type(-1), 149);
        due("150 signs", c.infers(",:/xx!a>aa" + Calls.tree(",", 73, "T")), 0);
        due("150 signs told", c.x.type(-1), 151);
        due("151 signs", c.infers(Calls.tree(",", 76, "T")), 2);
        due("steps of it", c.x.judged(1), 151);
        due("where", c.x.judged(6), -1);
        due("152 signs", c.infers(",:/xx!a>aa" + Calls.tree(",", 74, "T")), 2);
        due("a let of 151 signs", c.infers("&a" + Calls.tree(",", 76, "T") + "1"), 2);
        due("it stops at it", c.x.judged(1), 152);
        due("the name has not come", c.x.judged(4), 0);
        due("a let of 149 signs", c.infers("&a" + Calls.tree(",", 75, "T") + "1"), 0);
        due("a part of 151 signs", c.infers("[" + Calls.tree(",", 76, "T")), 2);
        due("a part of 149 signs", c.infers("[" + Calls.tree(",", 75, "T")), 0);
        due("noted with 151 signs", c.infers(":1" + Calls.tree(",", 76, "N")), 2);
        due("its check is not noted", c.x.judged(1), 1);
        due("noted with 149 signs", c.infers(":1" + Calls.tree(",", 75, "N")), 1);
        due("two of 75", c.infers("&a" + Calls.tree(",", 38, "T") + ",aa"), 2);
        due("two of 73", c.infers("&a" + Calls.tree(",", 37, "T") + ",aa"), 0);
        due("a solved one that is too long", c.infers("@/x,x,xx" + Calls.tree(",", 26, "T")), 2);
        due("a solved one that is not", c.infers("@/x,x,xx" + Calls.tree(",", 25, "T")), 0);
        due("a check against 151 signs", c.infers("&a" + Calls.tree(",", 38, "T") + "?T,aa,aa"), 2);
        due("it is not noted", c.x.step(c.x.judged(1) - 1, 0), 7);
        Calls.promise(6);
        due("below of 151 signs", c.below(Calls.tree(",", 76, "N") + "N"), 2);
        due("no step", c.x.judged(1), 0);
        due("no step", c.noStep(0, 0) ? 1 : 0, 1);
        due("most entries", c.x.judged(5), 0);
        due("above of 151 signs", c.below("N" + Calls.tree(",", 76, "N")), 2);
        due("below of 150 signs", c.below("!a" + Calls.tree(",", 75, "N") + "N"), 1);
        due("signs of its steps", c.steps(4), "151 150");
        due("both of 149 signs", c.below(Calls.tree(",", 75, "N") + Calls.tree(",", 75, "N")), 0);
        due("steps of both", c.x.judged(1), 149);
        due("signs of both", c.x.step(0, 4), 298);
    }

    private static void limitOfEntries() {
        Calls.promise(5);
        Calls c = new Calls();
        due("seven guesses", c.keeps(",1" + Calls.tree(",", 7, "/xx"), 'p'), 1);
        String text = "," + Calls.tree(",", 17, "[p") + "1";
        due("120 entries", c.infers(text), 0);
        due("most", c.x.judged(5), 120);
        due("entries at the end", c.x.judged(4), 120);
        c.keeps("1", 'q');
        due("121 entries", c.infers(text), 2);
        due("most of those noted", c.x.judged(5), 114);
        due("entries at the end", c.x.judged(4), 121);
        due("the last noted one", c.x.step(c.x.judged(1) - 1, 0), 7);
        due("where", c.x.judged(6), -1);
        due("more than 120 with no step behind it", c.infers(Calls.tree(",", 17, "[p")), 0);
        due("entries", c.x.judged(4), 121);
    }

    private static void limitOfSteps() {
        Calls.promise(5);
        Calls c = new Calls();
        String sum = Calls.tree("+", 50, "1 ");
        due("295 steps", c.infers(sum), 0);
        due("295 steps", c.x.judged(1), 295);
        due("300 steps", c.infers("],T,T" + sum), 0);
        due("300 steps", c.x.judged(1), 300);
        due("the last one", c.x.step(299, 0), 22);
        due("no 301st", c.noStep(300, 0) ? 1 : 0, 1);
        due("301 steps", c.infers("],T],T" + sum), 2);
        due("300 are noted", c.x.judged(1), 300);
        due("most steps", c.x.count(2), 300);
        due("no type", c.type(), "none");
        due("where", c.x.judged(6), -1);
    }

    private static void rules() {
        Calls.promise(21);
        Calls c = new Calls();
        c.infers(":/f,@f1@fT>!a>aa,NB");
        int[] want = new int[38];
        for (int rule : new int[] {9, 2, 3, 6, 11, 7, 17, 19, 6, 8, 24, 32, 22, 6, 11, 7, 17, 19, 6, 8, 24, 32, 22}) want[rule]++;
        for (int rule = 1; rule <= 36; rule++) due("byRule(" + rule + ")", c.x.byRule(rule), want[rule]);
        for (int rule : new int[] {0, -1, 37, Integer.MAX_VALUE, Integer.MIN_VALUE}) due("byRule(" + rule + ")", c.x.byRule(rule), -1);
        c.below("!aa N");
        due("byRule(9), of below()", c.x.byRule(9), 0);
        due("byRule(27), of below()", c.x.byRule(27), 1);
        // each rule once: a text that goes on by it
        String[] texts = {":1!aN", ":/x1>NN", ":,11,NN", ":?T1 2N", ":&x1xN", ":1N", "&x1x", "*", ":1N", "/x1", "@/x11", "&x1x", "?T**", ",**", "[,1*", "+11", "@:/xx!a>aa1", "/f@f1", "@/x1*"};
        for (int i = 0; i < texts.length; i++) {
            String text = texts[i].replace("11", "1 1");
            c.infers(text);
            due("byRule(" + (i + 1) + ") of " + text, c.x.byRule(i + 1) > 0 ? 1 : 0, 1);
        }
        String[] pairs = {"N!aN", "!aaN", "NN", "!aaN", "!a>aN>NN", ">NN>NN", ",NN,NN", "!aaN", null, "!aa>!bbN", "!aa,!bNN", "!aa>N!bN", "!a>aN>NN", null, "!a>aN>>!bbNN", "!a>aN>,!bNNN", "!a>aN>>N!bbN"};
        for (int i = 0; i < pairs.length; i++) {
            if (pairs[i] == null) continue;
            c.below(pairs[i]);
            due("byRule(" + (i + 20) + ") of " + pairs[i], c.x.byRule(i + 20) > 0 ? 1 : 0, 1);
        }
        c.infers("/xx");
        due("byRule(28)", c.x.byRule(28), 1);
        c.below("!aa >!bbN");
        due("byRule(33)", c.x.byRule(33), 1);
    }

    public static void main(String[] args) {
        verdicts();
        types();
        judged();
        steps();
        below();
        contexts();
        limitOfSigns();
        limitOfEntries();
        limitOfSteps();
        rules();
        Calls.ends("JudgeTest");
    }
}
