/** The edges that the promises name, a test for each sentence of each of them: nothing there, full, too small, too large, refused. */
public final class EdgeCallsTest {
    private static final int[] FAR = {Integer.MIN_VALUE, Integer.MIN_VALUE + 1, -1000000, -2, 1000000, Integer.MAX_VALUE - 1, Integer.MAX_VALUE};

    private static void due(String what, long got, long want) { Calls.due(what, got, want); }
    private static void due(String what, String got, String want) { Calls.due(what, got, want); }

    /** A call that is refused leaves all as it was. */
    private interface Refused { int answer(RankChecker x); }
    private static void refused(String what, Calls c, int want, Refused call) {
        String ahead = c.seen();
        due(what, call.answer(c.x), want);
        due(what + ": all stays", c.seen(), ahead);
    }
    /** Three on the shelf, a judgement that is right, and something on the tape. */
    private static Calls some() {
        Calls c = new Calls();
        c.keeps("/xx", 'i');
        c.keeps("@i1", 'n');
        c.keeps(":/xx>NN", 'f');
        c.infers("@f@in");
        return c.tape("+1");
    }

    // ---- 1 to 4: a new object, the tape ----

    private static void newObject() {
        Calls.sentence("promise 1", "Nothing on the SHELF, no JUDGEMENT");
        StringBuilder rules = new StringBuilder();
        for (int i = 0; i < 36; i++) rules.append("-1 ");
        due("all answers", new Calls().seen(), "0 0 0 0 0 0 0 " + "0 0 0 " + "-1 -1 -1 -1 -1 -1 -1 -1 -1 " + "-2 -2 -2 -2 " + rules + "\n\n\n\n\n\n\nnone\n");
        Calls one = some();
        due("another object has nothing of it", new Calls().seen(), new Calls().seen());
        due("nor has the first one lost anything", one.x.count(1), 3);
    }

    private static void feeds() {
        Calls.sentence("promise 2", "of each number the highest first");
        RankChecker x = new RankChecker();
        due("feed", x.feed(0x2f782c78, 0x2c545555, 0, 0, 0), 8);
        x.end(6);
        due("fault of /x,x,T", x.fault(0), 6);
        x = new RankChecker();
        due("feed of twenty", x.feed(0x2c2c2c2c, 0x2c2c2c2c, 0x2c2a2a2a, 0x2a2a2a2a, 0x2a2a2a20), 20);
        due("fault of twenty", x.fault(0), -1);
        Calls.sentence("promise 2", "bytes of 0 are left out");
        x = new RankChecker();
        due("feed of zeros", x.feed(0, 0, 0, 0, 0), 0);
        due("feed of one in the midst", x.feed(0, 0x002b0000, 0, 0x00003100, 0x20), 3);
        due("feed of the last byte", x.feed(0, 0, 0, 0, 0x32), 4);
        due("infers() of +1 2", x.infers(), 0);
        Calls.sentence("promise 2", "how many it has");
        for (int n = 0; n <= 20; n++) {
            int[] w = new int[5];
            for (int i = 0; i < n; i++) w[i / 4] |= (i % 2 == 0 ? 255 : 1) << 24 - i % 4 * 8;
            x = new RankChecker();
            due("feed of " + n, x.feed(w[0], w[1], w[2], w[3], w[4]), n);
            due("feed of " + n + " more", x.feed(w[4], w[3], w[2], w[1], w[0]), 2 * n);
            due("count(0)", x.count(0), 2 * n);
        }
    }

    private static void feedsToTheFull() {
        Calls.sentence("promise 2", "NONE: more than 300");
        for (int more = 0; more <= 20; more++) {
            Calls c = new Calls();
            c.more(" /x x " + Calls.times(" ", 300 - 6 - more));
            due("it has", c.x.count(0), 300 - more);
            if (more < 20) {
                int tooMany = more;
                refused("feed of " + (more + 1), c, -1, x -> feed(x, tooMany + 1));
            }
            due("feed of " + more, feed(c.x, more), 300);
            refused("feed of one more", c, -1, x -> feed(x, 1));
            due("feed of none", c.x.feed(0, 0, 0, 0, 0), 300);
            due("end(6)", c.x.end(6) ? 1 : 0, 1);
            due("infers() of what it had ahead", c.x.infers(), 0);
        }
    }
    private static int feed(RankChecker x, int many) {
        int[] w = new int[5];
        for (int i = 0; i < many; i++) w[i / 4] |= '*' << 24 - i % 4 * 8;
        return x.feed(w[0], w[1], w[2], w[3], w[4]);
    }

    private static void ends() {
        Calls.sentence("promise 3", "The TAPE has its first n bytes alone");
        for (int n = 0; n <= 8; n++) {
            Calls c = new Calls().tape("/x,x,TTT");
            due("end(" + n + ")", c.x.end(n) ? 1 : 0, 1);
            due("count(0)", c.x.count(0), n);
            due("fault", c.x.fault(0), n == 7 ? -1 : n == 8 ? 7 : n);
            due("end(" + n + ") again", c.x.end(n) ? 1 : 0, 1);
            due("count(0)", c.x.count(0), n);
            due("feed behind it", c.x.feed(0x21000000, 0, 0, 0, 0), n + 1);
            due("what went is gone", c.x.fault(0), n == 2 || n == 4 ? n : Math.min(n, 7));
        }
        Calls.sentence("promise 3", "False: n");
        for (int has : new int[] {0, 1, 8, 300}) {
            for (int n : new int[] {-1, has + 1, 301}) {
                Calls c = new Calls().tape(Calls.times("*", has));
                refused("end(" + n + ") of " + has, c, 0, x -> x.end(n) ? 1 : 0);
            }
            Calls c = new Calls().tape(Calls.times("*", has));
            for (int n : FAR) refused("end(" + n + ") of " + has, c, 0, x -> x.end(n) ? 1 : 0);
        }
    }

    private static void faults() {
        Calls.sentence("promise 4", "as an EXPRESSION (0), as that many TYPES (1, 2)");
        // text, fault(0), fault(1), fault(2)
        Object[][] all = {{"", 0, 0, 0}, {"N", 0, -1, 1}, {"NN", 0, 1, -1}, {"NNN", 0, 1, 2}, {"T", -1, 0, 0}, {",TT", -1, 1, 1}, {",NN", 1, -1, 3}, {",NN,BB", 1, 3, -1}, {" ", 1, 1, 1}};
        for (Object[] one : all) {
            for (int what = 0; what <= 2; what++) {
                int asked = what;
                refused("fault(" + what + ") of " + one[0], new Calls().tape((String) one[0]), (Integer) one[what + 1], x -> x.fault(asked));
            }
        }
        Calls.sentence("promise 4", "-2: another what");
        for (int what : new int[] {-2, -1, 3, 4}) for (String text : new String[] {"", "N", "T"}) refused("fault(" + what + ")", new Calls().tape(text), -2, x -> x.fault(what));
        for (int what : FAR) due("fault(" + what + ")", new Calls().tape("N").x.fault(what), -2);
    }

    // ---- 5 to 7: judgements ----

    private static void infers() {
        Calls.sentence("promise 5", "on the TAPE (empty then): 0 it is RIGHT, 1 it FAILS, 2 TOO LONG");
        String[] texts = {"/xx", "+1T", Calls.tree(",", 76, "T")};
        for (int verdict = 0; verdict <= 2; verdict++) {
            Calls c = new Calls();
            due("infers()", c.infers(texts[verdict]), verdict);
            due("its tape", c.x.count(0), 0);
            due("judged(0)", c.x.judged(0), verdict);
            due("infers() again, of an empty tape", c.x.infers(), -1);
            due("judged(0)", c.x.judged(0), verdict);
        }
        Calls.sentence("promise 5", "NONE: a FAULT (the TAPE stays, the JUDGEMENT ahead, too)");
        for (String text : new String[] {"", " ", "+1", "NN", "123", "@11", ":1a", Calls.times("[", 20) + "x", Calls.times(" ", 300)}) {
            refused("infers() of " + text, new Calls().tape(text), -1, RankChecker::infers);
            refused("infers() of " + text, some().tape(text), -1, RankChecker::infers);
        }
        Calls c = some().tape("@i");
        due("a fault", c.x.infers(), -1);
        c.more("T");
        due("the tape that stayed goes on", c.x.infers(), 0);
        due("its type", c.type(), "B");
    }

    private static void below() {
        Calls.sentence("promise 6", "on the TAPE (empty then): 0 the first is BELOW the second, 1 it FAILS, 2 TOO LONG");
        String[] texts = {"!a>aa>NN", ">NN!a>aa", Calls.tree(",", 76, "N") + "N"};
        for (int verdict = 0; verdict <= 2; verdict++) {
            Calls c = some();
            due("below()", c.below(texts[verdict]), verdict);
            due("its tape", c.x.count(0), 0);
            due("judged(0)", c.x.judged(0), verdict);
            due("below() again, of an empty tape", c.x.below(), -1);
            due("judged(0)", c.x.judged(0), verdict);
            due("the expression stays that of infers()", c.x.worked(3), 1);
        }
        Calls.sentence("promise 6", "NONE: a FAULT (likewise)");
        for (String text : new String[] {"", "N", "NNN", "!aaa", "aa", "TT", "!a!", Calls.times("!a", 20) + "aN", "N" + Calls.times("!a", 20) + "a"}) {
            refused("below() of " + text, new Calls().tape(text), -1, RankChecker::below);
            refused("below() of " + text, some().tape(text), -1, RankChecker::below);
        }
        Calls.sentence("3", "in an empty CONTEXT");
        Calls c = some();
        c.below("NB");
        due("entries", c.x.judged(4), 0);
        due("where its first step is", c.x.step(0, 1), 0);
        due("in how many it is", c.x.step(0, 2), 0);
        c.below("!aN!bN");
        due("in how many its steps are", c.steps(2), "0 1 2");
        due("entries at their begins", c.steps(1), "0 1 3");
        due("entries at the end", c.x.judged(4), 0);
    }

    private static void judged() {
        Calls.sentence("promise 7", "NONE: there is none");
        for (int what = -1; what <= 9; what++) due("judged(" + what + ") of none", new Calls().x.judged(what), -1);
        Calls.sentence("promise 7", "NONE: no such what");
        Calls c = some();
        for (int what : new int[] {-1, 9, 10}) due("judged(" + what + ")", c.x.judged(what), -1);
        for (int what : FAR) due("judged(" + what + ")", c.x.judged(what), -1);
        Calls.sentence("promise 7", "at which byte the EXPRESSION begins at which it FAILS (NONE: it doesn't, BELOW alone)");
        c = new Calls();
        c.infers("  + 1  T");
        due("judged(6) as it fails", c.x.judged(6), 7);
        c.infers("1");
        due("judged(6) as it does not", c.x.judged(6), -1);
        c.infers("+1z");
        due("judged(6) as it fails", c.x.judged(6), 2);
        c.below("NB");
        due("judged(6) of BELOW alone", c.x.judged(6), -1);
        c.infers("z");
        due("judged(6) at the first byte", c.x.judged(6), 0);
        c.infers(Calls.tree(",", 76, "T"));
        due("judged(6) of what is too long", c.x.judged(6), -1);
        c.infers(Calls.times(" ", 299) + "z");
        due("judged(6) at the last byte there may be", c.x.judged(6), 299);
        Calls.sentence("promise 7", "open GUESSES in its TYPE (0: there is none); RANK of its TYPE (NONE: there is none)");
        String[] texts = {"1", "/xx", "/x/y/z,xz", ":/f1>!aaN", "+1T", Calls.tree(",", 76, "/xT")};
        int[] open = {0, 1, 3, 0, 0, 0};
        int[] rank = {0, 0, 0, 2, -1, -1};
        for (int i = 0; i < texts.length; i++) {
            c.infers(texts[i]);
            due("judged(7) of " + texts[i], c.x.judged(7), open[i]);
            due("judged(8) of " + texts[i], c.x.judged(8), rank[i]);
        }
        c.infers("/xx");
        c.below("NN");
        due("judged(7) of BELOW alone", c.x.judged(7), 0);
        due("judged(8) of BELOW alone", c.x.judged(8), -1);
    }

    private static void most() {
        Calls.sentence("promise 7", "the most ENTRIES at the begin of a STEP that is noted");
        Calls c = new Calls();
        c.infers("/x/y/zq");
        due("of three functions", c.x.judged(5), 9);
        c.infers("1");
        due("of none", c.x.judged(5), 0);
        c.infers("[:,1 2!a!b!c,NN");
        due("entries that come behind the last step do not count", c.x.judged(5), 3);
        due("though they are there", c.x.judged(4), 3);
        c.below(Calls.tree(",", 76, "N") + "N");
        due("without a step", c.x.judged(5), 0);
        c.keeps("1", 'a');
        c.keeps("2", 'b');
        c.infers("+a3");
        due("of the shelf", c.x.judged(5), 2);
    }

    // ---- 8 to 11: what a judgement tells ----

    private static void types() {
        Calls.sentence("promise 8", "NONE: there is none");
        String[] none = {"+1T", Calls.tree(",", 76, "T")};
        for (int k : new int[] {-2, -1, 0, 1}) {
            due("type(" + k + ") ahead of all", new Calls().x.type(k), -1);
            for (String text : none) {
                Calls c = new Calls();
                c.infers("/xx");
                c.infers(text);
                due("type(" + k + ") of " + text, c.x.type(k), -1);
            }
            Calls c = new Calls();
            c.infers("/xx");
            c.below("NN");
            due("type(" + k + ") of BELOW", c.x.type(k), -1);
        }
        Calls.sentence("promise 8", "NONE: no such sign");
        for (String text : new String[] {"1", "/xx", ",:/xx!a>aa" + Calls.tree(",", 73, "T")}) {
            Calls c = new Calls();
            c.infers(text);
            int n = c.x.type(-1);
            due("the first is there", c.x.type(0) > 0 ? 1 : 0, 1);
            due("the last is there", c.x.type(n - 1) > 0 ? 1 : 0, 1);
            due("the one behind it", c.x.type(n), -1);
            due("the one behind that", c.x.type(n + 1), -1);
            for (int k : FAR) due("type(" + k + ")", c.x.type(k), -1);
        }
    }

    private static void steps() {
        Calls.sentence("promise 9", "NoSuchElementException: no such ones");
        for (int what = -1; what <= 6; what++) due("step(0, " + what + ") ahead of all throws", new Calls().noStep(0, what) ? 1 : 0, 1);
        Calls c = some();
        int n = c.x.judged(1);
        for (int what = 0; what <= 5; what++) {
            due("step(0, " + what + ") throws", c.noStep(0, what) ? 1 : 0, 0);
            due("the last one throws", c.noStep(n - 1, what) ? 1 : 0, 0);
            due("step(-1, " + what + ") throws", c.noStep(-1, what) ? 1 : 0, 1);
            due("the one behind all throws", c.noStep(n, what) ? 1 : 0, 1);
            for (int i : FAR) due("step(" + i + ", " + what + ") throws", c.noStep(i, what) ? 1 : 0, 1);
        }
        for (int what : new int[] {-1, 6, 7}) due("step(0, " + what + ") throws", c.noStep(0, what) ? 1 : 0, 1);
        for (int what : FAR) due("step(0, " + what + ") throws", c.noStep(0, what) ? 1 : 0, 1);
        refused("a step that is not there", some(), 1, x -> throwsAt(x, -1, 0) + throwsAt(x, 0, 6) - 1);
        c.infers("1");
        due("steps of the judgement ahead are gone", c.noStep(1, 0) ? 1 : 0, 1);
        c.below(Calls.tree(",", 76, "N") + "N");
        due("a judgement without steps", c.noStep(0, 0) ? 1 : 0, 1);
        Calls.sentence("promise 9", "in how many STEPS it is; at which byte (NONE: it has none); SIGNS (0 of INFER; of LEFT, RIGHT without the GUESS)");
        c.infers(":?T*/xx O");
        due("it fails at what was begun last", c.x.judged(6), 6);
        due("rules", c.steps(0), "9 4 6 8 22 6 8 22 6 10 6 7 23 28 0");
        due("in how many", c.steps(2), "0 1 2 3 3 2 3 3 2 3 4 5 5 6 3");
        due("bytes", c.steps(3), "0 1 2 2 -1 3 3 -1 4 4 6 6 -1 -1 -1");
        due("signs", c.steps(4), "0 1 1 0 2 1 0 2 1 0 1 0 2 1 4");
        due("kinds", c.steps(5), "1 0 0 1 3 0 1 3 0 1 0 1 3 4 3");
    }
    private static int throwsAt(RankChecker x, int i, int what) {
        try {
            return x.step(i, what) * 0;
        } catch (java.util.NoSuchElementException e) {
            return 1;
        }
    }

    private static void entries() {
        Calls.sentence("promise 10", "NONE: no such ones");
        for (int what = -1; what <= 3; what++) due("entry(0, " + what + ") ahead of all", new Calls().x.entry(0, what), -1);
        Calls c = new Calls();
        c.infers(":/f@:/y@yz>NN 1!a>a>NN");
        due("context", c.context(), "c0 f:#0 y:N");
        c.infers("&k1/x@:/yz>NNx");
        due("context", c.context(), "k:N ^0 ^1 x:^0 y:N");
        int n = c.x.judged(4);
        for (int what = 0; what <= 2; what++) {
            due("entry(-1, " + what + ")", c.x.entry(-1, what), -1);
            due("the one behind all", c.x.entry(n, what), -1);
            due("the last is there", c.x.entry(n - 1, what) >= 0 ? 1 : 0, 1);
            for (int i : FAR) due("entry(" + i + ", " + what + ")", c.x.entry(i, what), -1);
        }
        for (int i = 0; i < n; i++) {
            for (int what : new int[] {-1, 3}) due("entry(" + i + ", " + what + ")", c.x.entry(i, what), -1);
            for (int what : FAR) due("entry(" + i + ", " + what + ")", c.x.entry(i, what), -1);
        }
        Calls.sentence("promise 10", "of a NAME 0 .. 25; of a MARK that of its GUESS; SIGNS of its TYPE (0 without)");
        for (char name = 'a'; name <= 'z'; name++) {
            c.infers("&" + name + ",1T@11".replace("11", "1 1"));
            due("kind of " + name, c.x.entry(0, 0), 1);
            due("number of " + name, c.x.entry(0, 1), name - 'a');
            due("signs of " + name, c.x.entry(0, 2), 3);
        }
        c.below("!a!b>ab >NB");
        c.below("!a!b>ab ,NB");
        due("context", c.context(), "m0 ^0 m1 ^1");
        for (int i = 0; i < 4; i++) {
            due("kind", c.x.entry(i, 0), i % 2 == 0 ? 4 : 2);
            due("number", c.x.entry(i, 1), i / 2);
            due("signs", c.x.entry(i, 2), 0);
        }
    }

    private static void entryTypes() {
        Calls.sentence("promise 11", "NONE: it has none, no such ones");
        for (int k = -2; k <= 1; k++) due("entryType(0, " + k + ") ahead of all", new Calls().x.entryType(0, k), -1);
        Calls c = new Calls();
        c.infers(":@/fz1 !a>a>NN");
        due("context", c.context(), "c0 ^0 ^1 f:^0");
        for (int i = 0; i < 3; i++) for (int k = -2; k <= 1; k++) due("entryType(" + i + ", " + k + ")", c.x.entryType(i, k), -1);
        due("entryType(3, -1)", c.x.entryType(3, -1), 2);
        due("entryType(3, 0)", c.x.entryType(3, 0), '^');
        due("entryType(3, 1)", c.x.entryType(3, 1), '0');
        due("entryType(3, 2)", c.x.entryType(3, 2), -1);
        for (int k : FAR) due("entryType(3, " + k + ")", c.x.entryType(3, k), -1);
        for (int k = -2; k <= 1; k++) {
            due("entryType(-1, " + k + ")", c.x.entryType(-1, k), -1);
            due("entryType(4, " + k + ")", c.x.entryType(4, k), -1);
            for (int i : FAR) due("entryType(" + i + ", " + k + ")", c.x.entryType(i, k), -1);
        }
        c.below("!a>aa ,NB");
        for (int k = -2; k <= 1; k++) due("entryType of a MARK", c.x.entryType(0, k), -1);
        c.infers("1");
        due("entries of the judgement ahead are gone", c.x.entryType(0, -1), -1);
        c.keeps("/xx", 'i');
        due("infers()", c.infers("/f/x@fx"), 0);
        due("context", c.context(), "i:!a>aa ^4 ^5 ^0=>^0^1 ^1=>^0^1");
        for (int i = 1; i <= 2; i++) {
            due("kind of one that another one was split into", c.x.entry(i, 0), 2);
            due("its SIGNS", c.x.entry(i, 2), 0);
            for (int k = -2; k <= 1; k++) due("its entryType", c.x.entryType(i, k), -1);
        }
    }

    // ---- 12 to 15: the shelf ----

    private static Calls full() {
        Calls c = new Calls();
        for (int i = 0; i < 8; i++) due("keeps of the " + i + "-th", c.keeps("" + i, (char) ('a' + 3 * i)), i + 1);
        return c;
    }
    private static void keeps() {
        Calls.sentence("promise 12", "NONE: there are 8");
        Calls c = full();
        c.infers("/xx");
        refused("keeps(25) of a ninth", c, -1, x -> x.keeps(25));
        c.x.drops();
        due("keeps(25) of an eighth", c.x.keeps(25), 8);
        Calls.sentence("promise 12", "NONE: no such NAME");
        c = some();
        for (int name : new int[] {-1, 26, 27}) refused("keeps(" + name + ")", c, -1, x -> x.keeps(name));
        for (int name : FAR) refused("keeps(" + name + ")", c, -1, x -> x.keeps(name));
        due("keeps(0)", c.x.keeps(0), 4);
        c.infers("1");
        due("keeps(25)", c.x.keeps(25), 5);
        Calls.sentence("promise 12", "NONE: there is it");
        c = full();
        c.x.drops();
        c.infers("T");
        for (int i = 0; i < 7; i++) {
            int name = 3 * i;
            refused("keeps(" + name + ")", c, -1, x -> x.keeps(name));
        }
        due("keeps of the one that went", c.x.keeps(21), 8);
        Calls.sentence("promise 12", "NONE: no JUDGEMENT of an EXPRESSION that is RIGHT");
        refused("keeps(0) ahead of all", new Calls(), -1, x -> x.keeps(0));
        for (String text : new String[] {"z", Calls.tree(",", 38, "/x1")}) {
            c = new Calls();
            c.infers("1");
            due("infers() of " + text, c.infers(text) > 0 ? 1 : 0, 1);
            refused("keeps(0) of " + text, c, -1, x -> x.keeps(0));
        }
        for (String text : new String[] {"NN", "NB", "N" + Calls.tree(",", 76, "N")}) {
            c = new Calls();
            c.infers("1");
            c.below(text);
            refused("keeps(0) of " + text, c, -1, x -> x.keeps(0));
        }
        Calls.sentence("promise 12", "NONE: or it was put there");
        c = new Calls();
        c.infers("1");
        due("keeps(0)", c.x.keeps(0), 1);
        refused("keeps(1)", c, -1, x -> x.keeps(1));
        c.infers("1");
        due("keeps(1) of the same once more", c.x.keeps(1), 2);
        c.x.drops();
        refused("keeps(1) of what was put there and went", c, -1, x -> x.keeps(1));
    }

    private static void keepsWhatWas() {
        Calls.sentence("promise 12", "The EXPRESSION of the JUDGEMENT comes onto the SHELF");
        Calls c = new Calls();
        c.infers("/xx");
        c.tape("NN").x.tells(0);
        c.tape("N").x.asks();
        c.tape("@").x.infers();
        c.tape("N").x.below();
        due("keeps(8) behind calls that judge nothing", c.x.keeps(8), 1);
        due("its type", c.shelfType(0), "!a>aa");
        due("its expressions", c.x.shelf(0, 4), 2);
        c.infers(",1,T*");
        due("what is kept stays what it was", c.x.shelf(0, 4), 2);
        c.infers("@i@i7");
        due("worked(3)", c.x.worked(3), 7);
        due("worked(1)", c.x.worked(1), 9);
    }

    private static void drops() {
        Calls.sentence("promise 13", "NONE: there is none");
        refused("drops() ahead of all", new Calls(), -1, RankChecker::drops);
        Calls c = full();
        for (int left = 7; left >= 0; left--) {
            due("drops()", c.x.drops(), left);
            due("count(1)", c.x.count(1), left);
            for (int i = left; i < 8; i++) due("shelf(" + i + ", 0)", c.x.shelf(i, 0), -1);
            if (left > 0) due("the latest", c.x.shelf(left - 1, 0), 3 * (left - 1));
        }
        refused("drops() of none", c, -1, RankChecker::drops);
        Calls.sentence("promise 13", "The latest of the SHELF goes");
        c = some();
        String judgement = c.type() + c.steps(0) + c.context();
        c.x.drops();
        due("the judgement stays", c.type() + c.steps(0) + c.context(), judgement);
        due("its name is there no more", c.infers("f"), 1);
        due("the others are", c.infers("@in"), 0);
        due("its name may come again", c.keeps("*", 'f'), 3);
    }

    private static void shelf() {
        Calls.sentence("promise 14", "NONE: no such ones");
        Calls.sentence("promise 15", "NONE: no such ones");
        for (int what = -1; what <= 5; what++) due("shelf(0, " + what + ") of none", new Calls().x.shelf(0, what), -1);
        for (int k = -2; k <= 1; k++) due("shelfType(0, " + k + ") of none", new Calls().x.shelfType(0, k), -1);
        Calls c = full();
        for (int i = 0; i < 8; i++) {
            for (int what : new int[] {-1, 5}) due("shelf(" + i + ", " + what + ")", c.x.shelf(i, what), -1);
            for (int what : FAR) due("shelf(" + i + ", " + what + ")", c.x.shelf(i, what), -1);
            due("shelfType(" + i + ", -1)", c.x.shelfType(i, -1), 1);
            due("shelfType(" + i + ", 0)", c.x.shelfType(i, 0), 'N');
            due("shelfType(" + i + ", 1)", c.x.shelfType(i, 1), -1);
            for (int k : FAR) due("shelfType(" + i + ", " + k + ")", c.x.shelfType(i, k), -1);
        }
        for (int what = 0; what <= 4; what++) {
            for (int i : new int[] {-1, 8, 9}) due("shelf(" + i + ", " + what + ")", c.x.shelf(i, what), -1);
            for (int i : FAR) due("shelf(" + i + ", " + what + ")", c.x.shelf(i, what), -1);
        }
        for (int k = -1; k <= 0; k++) {
            for (int i : new int[] {-1, 8, 9}) due("shelfType(" + i + ", " + k + ")", c.x.shelfType(i, k), -1);
            for (int i : FAR) due("shelfType(" + i + ", " + k + ")", c.x.shelfType(i, k), -1);
        }
        Calls.sentence("promise 14", "EXPRESSIONS in it, it too");
        due("of a leaf", c.x.shelf(0, 4), 1);
        c.x.drops();
        due("keeps", c.keeps("[,1" + Calls.tree(",", 74, "T"), 'z'), 8);
        due("of 150", c.x.shelf(7, 4), 150);
    }

    // ---- 16 to 21 ----

    private static void worked() {
        Calls.sentence("promise 16", "NONE - 1: there is none, no such what");
        for (int what = -2; what <= 5; what++) {
            due("worked(" + what + ") ahead of all", new Calls().x.worked(what), -2);
            Calls c = new Calls();
            c.below("NN");
            c.tape("+").x.infers();
            due("worked(" + what + ") behind below() and a fault", c.x.worked(what), -2);
        }
        for (int what : new int[] {-1, 4}) refused("worked(" + what + ")", some(), -2, x -> x.worked(what));
        Calls c = some();
        for (int what : FAR) due("worked(" + what + ")", c.x.worked(what), -2);
        Calls.sentence("promise 16", "PACES (400 at most: else it is TIRED)");
        c = new Calls();
        c.keeps(Calls.tree(",", 75, "T"), 'a');
        // two of 150 paces and the pairs that they are in: 302; then so many more
        for (int more = 96; more <= 100; more++) {
            String text = ",a,a" + Calls.times("[", more % 2 == 0 ? 1 : 0) + Calls.tree(",", (more + 1) / 2, "T");
            int paces = 302 + more;
            c.infers(text);
            due("worked(0) with " + paces, c.x.worked(0), paces <= 400 ? 0 : 1);
            due("worked(1) with " + paces, c.x.worked(1), Math.min(400, paces));
            due("worked(2) with " + paces, c.x.worked(2), paces <= 400 ? 3 : -1);
            due("worked(3) with " + paces, c.x.worked(3) > 0 ? 1 : 0, paces <= 400 ? 1 : 0);
        }
        Calls.sentence("promise 16", "RIGHT or not; STUCK: NONE without, 0 without");
        for (String text : new String[] {"z", "@1 2", "[1", "?1 2 3", "+T1", "+1T", "<*1", "]/xx", "@*z", "+/xx1", "?,TTT*", "[T", "@,1 2 3"}) {
            c.infers(text);
            due("worked(0) of " + text, c.x.worked(0), 2);
            due("worked(2) of " + text, c.x.worked(2), -1);
            due("worked(3) of " + text, c.x.worked(3), 0);
        }
    }

    private static void ofOthers() {
        Calls.sentence("3", "NAMES of the SHELF as they stand there, each time anew");
        Calls c = new Calls();
        c.keeps("7", 'a');
        c.keeps("/x+x1", 's');
        c.keeps("/f/x@f@fx", 't');
        c.keeps("/x/y,yx", 'w');
        c.infers("@@tsa");
        due("worked(3)", c.x.worked(3), 9);
        due("worked(1)", c.x.worked(1), 20);
        c.infers("]@@ws@t@ts");
        due("a function of the third", c.x.worked(2), 4);
        c.infers("@]@@wsa1");
        due("a function of the second", c.x.worked(3), 2);
        c.infers("@[@@wa@ts3");
        due("a function of the third, of the second", c.x.worked(3), 5);
    }

    private static void asks() {
        Calls.sentence("promise 17", "-2: there is none (the TAPE stays)");
        for (String text : new String[] {"", "N", "NN", "!a"}) {
            refused("asks() of " + text, new Calls().tape(text), -2, RankChecker::asks);
            Calls c = new Calls();
            c.below("NN");
            c.tape("+").x.infers();
            refused("asks() of " + text, c.tape(text), -2, RankChecker::asks);
        }
        Calls.sentence("promise 17", "-3 - place: a FAULT (likewise)");
        String[] texts = {"", "T", "NN", "!a", "!ab", ">N", Calls.times(" ", 300), Calls.times("!a", 20) + "a", Calls.times(" ", 299) + "T"};
        int[] places = {0, 0, 1, 2, 2, 2, 300, 40, 299};
        for (int i = 0; i < texts.length; i++) refused("asks() of " + texts[i], some().tape(texts[i]), -3 - places[i], RankChecker::asks);
        Calls.sentence("promise 17", "-1: none does; the JUDGEMENT stays");
        for (String text : new String[] {"O", "N", ">NN", "!a>aa", Calls.tree(",", 76, "N")}) {
            Calls c = some();
            c.x.end(0);
            String ahead = c.seen();
            c.tape(text);
            int answer = c.x.asks();
            due("asks() for " + text, answer, text.equals("N") ? 0 : text.equals(">NN") ? 1 : text.equals("!a>aa") ? 3 : -1);
            due("all stays but the tape, which is empty", c.seen(), ahead);
        }
        Calls.sentence("promise 17", "the least byte at which an EXPRESSION begins");
        Calls c = new Calls();
        c.infers("   ,  1 ,  2 T");
        due("asks() for a part", c.asks("N"), 6);
        due("asks() for a whole", c.asks(",N,NB"), 3);
        due("asks() for the last one", c.asks("B"), 13);
        due("asks() for the pair in it", c.asks(",NB"), 8);
        due("asks() for what none is", c.asks("O"), -1);
    }

    private static void asksWithManySteps() {
        Calls.sentence("promise 17", "as soon as all these together would have a 501st STEP, none does any more");
        // the last of n in a row of pairs is O: each one ahead of it fails, sooner or later
        int last = 0;
        for (int n = 2; n <= 14; n++) {
            Calls c = new Calls();
            String text = Calls.times(",1 ", n) + "*";
            int steps = 0;
            for (int node = 0; node < 2 * n + 1; node++) {
                int at = node == 2 * n ? text.length() - 1 : node / 2 * 3 + node % 2;
                int past = node % 2 == 1 ? at + 1 : text.length();
                Calls noted = new Calls();
                noted.infers(text.substring(0, at) + ":" + text.substring(at, past) + "O" + text.substring(past));
                steps += noted.x.judged(1);
            }
            c.infers(text);
            due("asks() with " + steps, c.asks("O"), steps <= 500 ? text.length() - 1 : -1);
            last = steps;
        }
        due("more than 500 were needed", last > 500 ? 1 : 0, 1);
    }

    /** A function whose argument is used n times, each time as a long type unless it is noted to be of all types; then a tail of so many steps. */
    private static String usesOften(int n, String notedAs, int tail) {
        String behind = tail % 2 == 0 ? "[" + Calls.times(",1 ", tail / 2 - 1) + "1" : Calls.times(",1 ", tail / 2) + "1";
        String function = "/f" + Calls.tree("+", n, "[,1?Tpf");
        return "&g" + (notedAs.isEmpty() ? function : ":" + function + notedAs) + " " + behind;
    }
    private static Calls withLong() {
        Calls c = new Calls();
        c.keeps(Calls.tree(",", 60, "T"), 'p');
        return c;
    }
    private static void asksBehindTooLong() {
        Calls.sentence("promise 17", "makes all of it RIGHT; all these together would have a 501st STEP");
        for (int tail : new int[] {1, 4, 19, 20, 21, 22, 37}) {
            Calls noted = withLong();
            due("infers() of what is noted", noted.infers(usesOften(10, ">!aaN", tail)), 0);
            due("its steps", noted.x.judged(1), 180 + tail);
            Calls c = withLong();
            due("infers() of what is not", c.infers(usesOften(10, "", tail)), 2);
            // the whole, noted, has 300 steps and is too long; what is noted behind it has 200 left
            due("asks() with " + tail + " behind it", c.asks(">!aaN"), 180 + tail <= 200 ? 2 : -1);
            due("the judgement stays", c.x.judged(0), 2);
        }
        Calls.sentence("promise 17", "makes all of it RIGHT, though it would with more than 300 STEPS");
        Calls c = new Calls();
        for (int sum = 48; sum <= 50; sum++) {
            Calls noted = new Calls();
            String text = Calls.tree("+", sum, "1 ");
            int verdict = noted.infers(":[,1 " + text + "N");
            c.infers("[,1 " + text);
            due("asks() of " + sum + " in a sum", c.asks("N"), verdict == 0 ? 0 : -1);
        }
        due("the last of these was too long", c.infers(":[,1 " + Calls.tree("+", 50, "1 ") + "N"), 2);
        due("the first was not", c.infers(":[,1 " + Calls.tree("+", 48, "1 ") + "N"), 0);
    }
    private static void asksWithin() {
        Calls.sentence("promise 17", "were it NOTED there with that TYPE; Terms, 'At most 20 within one another'");
        // the innermost is the 20th: a text with a note round it would have a 21st, but it is asked for all the same
        Calls c = new Calls();
        c.keeps(Calls.times(",", 19) + "T" + Calls.times("1 ", 19), 'x');
        due("infers() of 20 within one another", c.infers(Calls.times("[", 19) + "x"), 0);
        due("asks() for the whole", c.asks("B"), 0);
        due("asks() for one of the inner ones", c.asks(",,,BNNN"), 3);
        due("a text with that note has a fault", c.fault(":" + Calls.times("[", 19) + "xB", 0), 20);
        Calls.sentence("promise 17", "an EXPRESSION of that of the latest infers()");
        c = new Calls();
        c.infers(":/x:xN>NN");
        due("asks() for what is noted already", c.asks(">NN"), 0);
        due("asks() for what is in a note", c.asks("N"), 3);
        due("asks() for another type", c.asks("B"), -1);
    }

    private static void tells() {
        Calls.sentence("promise 18", "NONE: a FAULT (the TAPE stays)");
        for (int what = 0; what <= 3; what++) {
            int asked = what;
            for (String text : new String[] {"", "N", "NNN", "!aaa", "T", ">N"}) refused("tells(" + what + ") of " + text, some().tape(text), -1, x -> x.tells(asked));
        }
        Calls.sentence("promise 18", "NONE: no such what");
        for (int what : new int[] {-1, 4}) for (String text : new String[] {"NN", "N", ""}) refused("tells(" + what + ") of " + text, some().tape(text), -1, x -> x.tells(what));
        for (int what : FAR) refused("tells(" + what + ")", some().tape("NN"), -1, x -> x.tells(what));
        Calls.sentence("promise 18", "on the TAPE (empty then)");
        for (int what = 0; what <= 3; what++) {
            Calls c = some();
            c.x.end(0);
            String ahead = c.seen();
            c.tape(",!a>a!bbN N");
            due("tells(" + what + ")", c.x.tells(what), new int[] {7, 1, 0, 2}[what]);
            due("all stays", c.seen(), ahead);
        }
        Calls.sentence("promise 18", "1 if both are alike but for the VARIABLES' letters");
        Calls c = new Calls();
        String[] alike = {"NN", "!aa!zz", "!a!b,ab!b!a,ba", "!a!a,aa!a!b,bb", "!aN!bN", ",!aa!aa,!aa!bb", "! a > a a!b>bb"};
        String[] others = {"NB", "!aa!aN", "!a!b,ab!a!b,ba", "!a!a,aa!a!b,aa", "!aN N", "!a!bN!aN", ">NN,NN", ",NN,NB", "!a,aa!a,aN", "!a!b,aa!a!b,bb", "N,NN", ",NN N"};
        for (String text : alike) due("tells(2) of " + text, c.tells(text, 2), 1);
        for (String text : others) due("tells(2) of " + text, c.tells(text, 2), 0);
        // as long as a tape may be
        due("tells(0) of 297 signs", c.tells(Calls.tree(">", 149, "N") + "  N", 0), 297);
        due("tells(3) of 75", c.tells(Calls.tree(",", 75, "!aN") + "N", 3), 75);
    }

    private static void shelfBelow() {
        Calls.sentence("promise 19", "NONE: no such ones");
        refused("shelfBelow(0, 0) of none", new Calls(), -1, x -> x.shelfBelow(0, 0));
        for (int[] p : new int[][] {{-1, 0}, {0, -1}, {3, 0}, {0, 3}, {3, 3}, {-1, -1}}) refused("shelfBelow(" + p[0] + ", " + p[1] + ")", some(), -1, x -> x.shelfBelow(p[0], p[1]));
        for (int i : FAR) {
            due("shelfBelow(" + i + ", 0)", some().x.shelfBelow(i, 0), -1);
            due("shelfBelow(0, " + i + ")", some().x.shelfBelow(0, i), -1);
        }
        Calls.sentence("promise 19", "0, 1, 2 as below() (the JUDGEMENT stays as it was)");
        refused("one above another", some(), 0, x -> x.shelfBelow(0, 2));
        refused("one not above another", some(), 1, x -> x.shelfBelow(2, 0));
        Calls c = some();
        c.keeps(Calls.tree(",", 36, "/x1"), 'z');
        c.infers("1");
        refused("one that is too long", c, 2, x -> x.shelfBelow(3, 3));
        refused("one below one that is too long", c, 2, x -> x.shelfBelow(0, 3));
        refused("one that is too long below one", c, 2, x -> x.shelfBelow(3, 0));
    }

    private static void counts() {
        Calls.sentence("promise 20", "NONE for others");
        for (int what : new int[] {-1, 7, 8}) {
            due("count(" + what + ") ahead of all", new Calls().x.count(what), -1);
            refused("count(" + what + ")", some(), -1, x -> x.count(what));
        }
        Calls c = some();
        for (int what : FAR) due("count(" + what + ")", c.x.count(what), -1);
        Calls.sentence("promise 20", "the most STEPS of a JUDGEMENT so far");
        c = new Calls();
        due("ahead of any", c.x.count(2), 0);
        c.below("N" + Calls.tree(",", 76, "N"));
        due("of none", c.x.count(2), 0);
        c.infers("1");
        due("of one", c.x.count(2), 1);
        c.below("!aN!aN");
        due("of three", c.x.count(2), 3);
        c.infers("1");
        due("of one again", c.x.count(2), 3);
        Calls.sentence("promise 20", "EXPRESSIONS in that of the latest infers(), it too (0 ahead of any)");
        c = new Calls();
        c.tape("+").x.infers();
        c.below("NN");
        due("ahead of any", c.x.count(6), 0);
        c.infers("z");
        due("of one that fails", c.x.count(6), 1);
        c.infers("&i/xx?T:1N@i2");
        due("of many", c.x.count(6), 10);
        c.below("NN");
        due("behind below()", c.x.count(6), 10);
        c.infers(Calls.tree(",", 100, "T"));
        due("of 199", c.x.count(6), 199);
    }

    private static void rules() {
        Calls.sentence("promise 21", "NONE: no such rule, no JUDGEMENT");
        for (int rule = -1; rule <= 38; rule++) due("byRule(" + rule + ") of none", new Calls().x.byRule(rule), -1);
        Calls c = some();
        for (int rule : new int[] {-1, 0, 37, 38}) due("byRule(" + rule + ")", c.x.byRule(rule), -1);
        for (int rule : FAR) due("byRule(" + rule + ")", c.x.byRule(rule), -1);
        c.infers("z");
        for (int rule = 1; rule <= 36; rule++) due("byRule(" + rule + ") of what fails at once", c.x.byRule(rule), 0);
        c.below(Calls.tree(",", 76, "N") + "N");
        for (int rule = 1; rule <= 36; rule++) due("byRule(" + rule + ") without a step", c.x.byRule(rule), 0);
        c.infers(Calls.tree("+", 50, "1 "));
        due("byRule(6)", c.x.byRule(6), 98);
        due("byRule(8)", c.x.byRule(8), 50);
        due("byRule(16)", c.x.byRule(16), 49);
        due("byRule(22)", c.x.byRule(22), 98);
    }

    private static void manyCalls() {
        Calls.sentence("What it is", "at most 512 calls after it has been made");
        // sixteen calls fill the tape and judge it; the last time they answer as they did the first time
        Calls c = new Calls();
        String text = "[,1" + Calls.tree("+", 49, "1 ");
        String padded = text + Calls.times(" ", 300 - text.length());
        for (int i = 0; i < 30; i++) {
            due("infers() of the " + i + "-th", c.infers(padded), 0);
            due("steps of the " + i + "-th", c.x.judged(1), 292);
        }
        c = new Calls();
        c.keeps(",1" + Calls.tree(",", 7, "/xx"), 'p');
        for (int i = 0; i < 60; i++) {
            due("infers() of the " + i + "-th", c.infers("," + Calls.tree(",", 18, "[p") + "1"), 2);
            due("entries of the " + i + "-th", c.x.judged(4), 1 + 7 * 18);
            due("asks() of the " + i + "-th", c.asks("N"), -1);
        }
    }

    /** What one call leaves behind in rows that are used again must not be seen by the next one. */
    private static void rowsUsedAgain() {
        Calls.sentence("What it is", "at most 512 calls after it has been made");
        Calls c = new Calls();
        for (int i = 0; i < 8; i++) c.keeps(Calls.tree(",", 36, "/x1"), (char) ('a' + i));
        for (int i = 0; i < 100; i++) {
            due("infers() of the " + i + "-th, with long types on the shelf", c.infers("1"), 0);
            due("shelfBelow() of the " + i + "-th", c.x.shelfBelow(0, 7), 2);
        }
        c = new Calls();
        c.keeps("/xx", 'i');
        for (int i = 0; i < 200; i++) due("shelfBelow() of the " + i + "-th", c.x.shelfBelow(0, 0), 0);
        c.infers("&a1&b2&c3&d4@/x@/y@/z+a+b+c+d+x+yz 5 6 7");
        for (int i = 0; i < 200; i++) due("worked(3) of the " + i + "-th", c.x.worked(3), 28);
        c = new Calls();
        for (int i = 0; i < 100; i++) due("infers() of the " + i + "-th that is NOTED", c.infers(":1!a!b!c!d!e!f!g!hN"), 0);
        due("its type", c.type(), "!a!b!c!d!e!f!g!hN");
        Calls.sentence("promise 11", "TOLD as it stands");
        c = new Calls();
        c.infers("/f@f1");
        due("open GUESSES in its TYPE", c.x.judged(7), 1);
        due("the first that is come to", c.x.entryType(2, 2), '0');
        due("open GUESSES in its TYPE", c.x.judged(7), 1);
        due("the second that is come to", c.x.entryType(2, 4), '1');
    }

    /** Names of long types, as many as there is room for on the tape; each is gone before the next one comes. */
    private static void longTypesNamed() {
        Calls.sentence("2", "its NAME and that TYPE BY the CONTEXT come behind");
        Calls c = new Calls();
        for (int i = 0; i < 8; i++) c.keeps(",:/xx!a>aa" + Calls.tree(",", 73, "T"), (char) ('a' + i));
        for (int i = 0; i < 8; i++) due("SIGNS of the " + i + "-th", c.x.shelf(i, 1), 150);
        due("infers() of 96 LETS", c.infers(Calls.tree(",", 6, Calls.times("&xh", 16) + "*")), 0);
        due("its type", c.type(), ",,O,OO,O,OO");
        due("its steps", c.x.judged(1), 5 + 6 * 33);
        due("by rule 12", c.x.byRule(12), 96);
        due("the most entries", c.x.judged(5), 8 + 16);
        due("entries at the end", c.x.judged(4), 8);
        due("infers() of 16 LETS that are checked, and one that fails", c.infers(":" + Calls.times("&xh", 15) + "&yxz N"), 1);
        due("entries at the end", c.x.judged(4), 8 + 16);
        for (int i = 0; i < 24; i++) due("SIGNS of the entry " + i, c.x.entry(i, 2), 150);
        due("the last of the type of the last", c.x.entryType(23, 150), 'B');
        due("the one behind it", c.x.entryType(23, 151), -1);
    }

    public static void main(String[] args) {
        newObject();
        feeds();
        feedsToTheFull();
        ends();
        faults();
        infers();
        below();
        judged();
        most();
        types();
        steps();
        entries();
        entryTypes();
        keeps();
        keepsWhatWas();
        drops();
        shelf();
        worked();
        ofOthers();
        asks();
        asksWithManySteps();
        asksBehindTooLong();
        asksWithin();
        tells();
        shelfBelow();
        counts();
        rules();
        manyCalls();
        rowsUsedAgain();
        longTypesNamed();
        Calls.ends("EdgeCallsTest");
    }
}
