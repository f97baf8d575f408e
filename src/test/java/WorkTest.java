/** Promises 16 to 18 and 20: worked, asks, tells, count. */
public final class WorkTest {
    private static void due(String what, long got, long want) { Calls.due(what, got, want); }

    private static void worked(Calls c, String text, int how, int paces, int kind, int number) {
        c.infers(text);
        due("worked(0) of " + text, c.x.worked(0), how);
        due("worked(1) of " + text, c.x.worked(1), paces);
        due("worked(2) of " + text, c.x.worked(2), kind);
        due("worked(3) of " + text, c.x.worked(3), number);
    }

    private static void values() {
        Calls.promise(16);
        Calls c = new Calls();
        worked(c, "07", 0, 1, 0, 7);
        worked(c, "T", 0, 1, 1, 1);
        worked(c, "U", 0, 1, 1, 0);
        worked(c, "*", 0, 1, 2, 1);
        worked(c, "/xz", 0, 1, 4, 1);
        worked(c, ",1,TT", 0, 5, 3, 5);
        worked(c, ",/xx*", 0, 3, 3, 3);
        worked(c, "[,1T", 0, 4, 0, 1);
        worked(c, "],1T", 0, 4, 1, 1);
        worked(c, "@/x+x1 41", 0, 6, 0, 42);
        worked(c, ":1N", 0, 2, 0, 1);
        worked(c, "::1NN", 0, 3, 0, 1);
        worked(c, "?T1 z", 0, 3, 0, 1);
        worked(c, "?Uz2", 0, 3, 0, 2);
        worked(c, "<1 2", 0, 3, 1, 1);
        worked(c, "<2 2", 0, 3, 1, 0);
        worked(c, "&x1+xx", 0, 5, 0, 2);
        worked(c, "&x1&x2x", 0, 5, 0, 2);
        // a function has the names of where it was made
        worked(c, "&x1&f/yx&x2@f0", 0, 10, 0, 1);
        worked(c, "@@/x/yx 1 2", 0, 7, 0, 1);
        worked(c, "@@/x/xx 1 2", 0, 7, 0, 2);
        // wrong or not
        worked(c, "?T1 T", 0, 3, 0, 1);
        due("it is wrong", c.x.judged(0), 1);
        // ints that go round
        worked(c, "&d/x+xx&a" + Calls.times("@d", 13) + "99 " + Calls.times("@d", 13) + "a", 0, 135, 0, (int) (99L << 26));
        worked(c, "&d/x+xx&a" + Calls.times("@d", 13) + "99 <" + Calls.times("@d", 13) + "a0", 0, 137, 1, 1);
        // values in pairs, a million at most
        StringBuilder s = new StringBuilder();
        for (char name = 'b'; name <= 'r'; name++) s.append("&" + name + "," + (char) (name - 1) + (char) (name - 1));
        worked(c, "&a1" + s + ",rr", 0, 73, 3, 524287);
        worked(c, "&a,1 1" + s + ",rr", 0, 75, 3, 1000000);
        worked(c, "&a,1 1" + s + "r", 0, 73, 3, 524287);
        for (int what : new int[] {-1, 4, Integer.MIN_VALUE, Integer.MAX_VALUE}) due("worked(" + what + ")", c.x.worked(what), -2);
    }

    private static void stuck() {
        Calls.promise(16);
        Calls c = new Calls();
        worked(c, "z", 2, 1, -1, 0);
        worked(c, "@1z", 2, 2, -1, 0);
        worked(c, "@/x1 z", 2, 3, -1, 0);
        worked(c, "@/xz1", 2, 4, -1, 0);
        worked(c, "[1", 2, 2, -1, 0);
        worked(c, "]/xx", 2, 2, -1, 0);
        worked(c, "?1 2 3", 2, 2, -1, 0);
        worked(c, "+Tz", 2, 2, -1, 0);
        worked(c, "+1T", 2, 3, -1, 0);
        worked(c, "<*1", 2, 2, -1, 0);
        worked(c, "<1*", 2, 3, -1, 0);
        worked(c, ",1z", 2, 3, -1, 0);
        worked(c, "&xzx", 2, 2, -1, 0);
        worked(c, ",&x1xx", 2, 5, -1, 0);
    }

    private static void paces() {
        Calls.promise(16);
        Calls c = new Calls();
        worked(c, "&f/x@xx@ff", 1, 400, -1, 0);
        due("keeps", c.keeps(Calls.tree(",", 75, "T"), 'a'), 1);
        worked(c, "a", 0, 150, 3, 149);
        worked(c, ",a,a[" + Calls.tree(",", 49, "T"), 0, 400, 3, 1 + 149 + 1 + 149 + 47);
        worked(c, ",a,a" + Calls.tree(",", 50, "T"), 1, 400, -1, 0);
        worked(c, ",a,a@1" + Calls.tree(",", 50, "T"), 2, 304, -1, 0);
        worked(c, ",a,a,[" + Calls.tree(",", 48, "T") + "z", 2, 400, -1, 0);
        worked(c, ",a,a,[[" + Calls.tree(",", 48, "T") + "z", 1, 400, -1, 0);
        worked(c, ",a,a," + Calls.tree(",", 48, "T") + "z", 2, 399, -1, 0);
        worked(c, ",a,a[,[" + Calls.tree(",", 47, "T") + "z", 2, 399, -1, 0);
    }

    private static void ofTheShelf() {
        Calls.promise(16);
        Calls c = new Calls();
        c.keeps("/xx", 'i');
        worked(c, "@ii", 0, 6, 4, 1);
        worked(c, "&i1i", 0, 3, 0, 1);
        c.keeps("@i41", 'k');
        worked(c, "+1k", 0, 8, 0, 42);
        // what is on the shelf has no names of where it is used
        worked(c, "&i1k", 0, 8, 0, 41);
        c.infers("+1k");
        c.tape("@").x.infers();
        due("worked(3) behind a fault", c.x.worked(3), 42);
        c.below("NB");
        due("worked(3) behind below()", c.x.worked(3), 42);
        c.x.drops();
        due("worked(0) behind drops()", c.x.worked(0), 2);
        due("worked(1) behind drops()", c.x.worked(1), 3);
        c.keeps("99", 'k');
        worked(c, "+1k", 0, 4, 0, 100);
        // kept with the name of one that it uses, and that went
        c.x.drops();
        c.keeps("1", 'k');
        c.infers("+1k");
        c.x.drops();
        due("keeps(k)", c.x.keeps(10), 2);
        due("worked(0) of what uses itself", c.x.worked(0), 1);
    }

    private static void asks() {
        Calls.promise(17);
        Calls c = new Calls();
        due("asks() ahead of all", c.asks("N"), -2);
        due("the tape stays", c.x.count(0), 1);
        c.below("NN");
        due("asks() behind below() alone", c.asks("N"), -2);
        c.infers("/f,@f1@fT");
        due("asks() of a fault", c.asks("N N"), -5);
        due("the tape stays", c.x.count(0), 3);
        due("asks() of an empty tape", c.asks(""), -3);
        due("asks() of an open variable", c.asks(">Na"), -5);
        due("asks() for all", c.asks(">!a>aa,NB"), 0);
        due("the tape is empty", c.x.count(0), 0);
        due("the judgement stays", c.x.judged(6), 8);
        due("asks() for none", c.asks("!a>aa"), -1);
        due("the tape is empty", c.x.count(0), 0);
        c.infers("@/f,@f1@fT/xx");
        due("asks() for the function", c.asks(">!a>aa,NB"), 1);
        c.infers(" @ /f,@f1@fT /xx");
        due("asks() for its byte", c.asks(">!a>aa,NB"), 3);
        c.infers("&f/xx,@f1@fT");
        due("asks() for the let", c.asks("!a>aa"), 2);
        c.infers("+1 2");
        due("asks() for what all is", c.asks("N"), 0);
        due("asks() for no part", c.asks("B"), -1);
        c.infers("?<1 2T*");
        due("asks() for what is wrong", c.asks("B"), -1);
        c.infers(",1T");
        due("asks() for the second", c.asks("B"), 2);
        due("asks() for a whole", c.asks(",NB"), 0);
        // the shelf as it is now
        c.infers("@i1");
        due("asks() with no i", c.asks("N"), -1);
        c.keeps("/xx", 'i');
        c.infers("@i1");
        due("asks() with i", c.asks("N"), 0);
        c.x.drops();
        due("asks() as i went", c.asks("N"), -1);
        due("the judgement stays", c.x.judged(0), 0);
        due("asks() counts nowhere", c.x.count(3) + 100 * c.x.count(4), 5 + 100 * 6);
        due("worked(0) stays", c.x.worked(0), 2);
    }

    /** As a text: where the expression that begins at a byte ends. */
    private static int past(String t, int from) {
        int i = from;
        char c = t.charAt(i++);
        if (c == ' ') return past(t, i);
        if (c >= '0' && c <= '9' || c >= 'a' && c <= 'z' || c == 'T' || c == '*') return i;
        if (c == '/') i++;
        i = past(t, i);
        if (c == ':') return i + 1;
        return c == '/' ? i : past(t, i);
    }

    /** All that asks() would have to judge, noted by hand: how many steps there are up to what is right. */
    private static int stepsOfAll(String text, String type, int at) {
        int steps = 0;
        for (int i = 0; i <= at; i++) {
            char c = text.charAt(i);
            if (c == ' ' || c == 'N' || i > 0 && text.charAt(i - 1) == '/') continue;
            int past = past(text, i);
            Calls noted = new Calls();
            due("noted at " + i, noted.infers(text.substring(0, i) + ":" + text.substring(i, past) + type + text.substring(past)), i == at ? 0 : 1);
            steps += noted.x.judged(1);
        }
        return steps;
    }

    private static void asksForLong() {
        Calls.promise(17);
        Calls c = new Calls();
        String text = ",+1 2 ,1 ,+1 2 ,1 ,/xx,:1N,1 ,1 ,/xx,:1N,+1 2 *";
        due("steps of all", stepsOfAll(text, "O", 21), 500);
        c.infers(text);
        due("asks() with 500 steps", c.asks("O"), 21);
        text = ",T,T,:1N,+1 2 ,/xx,:1N,:1N,1 ,1 ,/xx,:1N,/xx,/xx*";
        due("steps of all", stepsOfAll(text, "O", 17), 501);
        c.infers(text);
        due("asks() with 501 steps", c.asks("O"), -1);
        // one that is too long is not right, and the next ones are asked for
        c.infers(Calls.tree("+", 49, "1 "));
        due("one of 289 steps", c.x.judged(1), 289);
        due("asks() for it", c.asks("N"), 0);
        c.infers("],T],T" + Calls.tree("+", 49, "1 "));
        due("295 steps", c.x.judged(1), 295);
        due("asks() for what needs too many", c.asks("O"), -1);
        c.infers("],T],T" + Calls.tree("+", 50, "1 "));
        due("301 steps", c.x.judged(0), 2);
        due("asks() for what is too long", c.asks("N"), -1);
        c.infers(",:/xx!a>aa" + Calls.tree(",", 73, "T"));
        due("asks() for what is 301 signs", c.asks("!b>bb"), 1);
    }

    private static void tells() {
        Calls.promise(18);
        Calls c = new Calls();
        // two types, signs, rank, alike, alls
        Object[][] all = {
            {"NN", 1, 0, 1, 0}, {"NB", 1, 0, 0, 0}, {"!a>aa!b>bb", 4, 1, 1, 1}, {"!a>aa!a>aN", 4, 1, 0, 1}, {"!a!b>ab!b!a>ba", 5, 1, 1, 2}, {"!a!b>ab!a!b>ba", 5, 1, 0, 2},
            {"!a!a>aa!a!b>bb", 5, 1, 1, 2}, {"!a!a>aa!a!b>ab", 5, 1, 0, 2}, {">!a>aaN N", 6, 2, 0, 1}, {">N!a>aa N", 6, 1, 0, 1}, {">>!a>aaNN N", 8, 3, 0, 1}, {",!a>aa!bb N", 7, 1, 0, 2},
            {",>!aaNO O", 6, 2, 0, 1}, {"!aN!bN", 2, 1, 1, 1}, {"!aN N", 2, 1, 0, 1}, {"!a>!b>baa !x>!a>axx", 7, 2, 1, 2}, {",NB>NB", 3, 0, 0, 0}, {">!aN!b!cN >!cN!c!cN", 6, 2, 1, 3},
            {"> ! a N , N N >!bN,NN", 6, 2, 1, 1}, {"!a,a!aa!b,b!bb", 5, 1, 1, 2}, {"!a,!aaa!b,!aab", 5, 1, 1, 2}, {"!a,!baa!b,!aab", 5, 1, 0, 2}
        };
        for (Object[] one : all) {
            for (int what = 0; what < 4; what++) {
                due("tells(" + what + ") of " + one[0], c.tells((String) one[0], what), (Integer) one[what + 1]);
                due("the tape is empty", c.x.count(0), 0);
            }
        }
        for (int what : new int[] {-1, 4, Integer.MIN_VALUE, Integer.MAX_VALUE}) {
            due("tells(" + what + ")", c.tells("NN", what), -1);
            due("the tape stays", c.x.count(0), 2);
        }
        for (String text : new String[] {"", "N", "NNN", "!aaa", "NX"}) {
            due("tells(0) of " + text, c.tells(text, 0), -1);
            due("the tape stays", c.x.count(0), text.length());
        }
        due("no judgement", c.x.judged(0), -1);
        due("signs of a long one", c.tells(Calls.tree(",", 75, "N") + Calls.tree(",", 75, "N"), 0), 149);
        due("both are alike", c.tells(Calls.tree(",", 75, "N") + Calls.tree(",", 75, "N"), 2), 1);
        due("a longer one", c.tells(Calls.tree(">", 149, "N") + "N", 0), 297);
        due("its rank", c.tells(Calls.times(">", 18) + "!aN" + Calls.times("N", 18) + "N", 1), 19);
    }

    private static void count() {
        Calls.promise(20);
        Calls c = new Calls();
        c.more("+1 2");
        due("count(0)", c.x.count(0), 4);
        c.x.infers();
        due("count(0)", c.x.count(0), 0);
        due("count(2)", c.x.count(2), 7);
        due("count(6)", c.x.count(6), 3);
        c.keeps("/xx", 'a');
        due("count(1)", c.x.count(1), 1);
        due("count(2) of the most", c.x.count(2), 7);
        due("count(6)", c.x.count(6), 2);
        c.infers("@");
        due("count(6) behind a fault", c.x.count(6), 2);
        c.infers("@z1");
        c.below("NB");
        c.below("NN");
        c.below(Calls.tree(",", 76, "N") + "N");
        c.infers("&x" + Calls.tree(",", 76, "T") + "1");
        due("count(2)", c.x.count(2), 152);
        due("count(3)", c.x.count(3), 3);
        due("count(4)", c.x.count(4), 2);
        due("count(5)", c.x.count(5), 2);
        due("count(6)", c.x.count(6), 153);
        c.x.shelfBelow(0, 0);
        c.tells("NN", 0);
        c.asks("N");
        due("count(2) stays", c.x.count(2), 152);
        due("count(3) stays", c.x.count(3), 3);
        due("count(4) stays", c.x.count(4), 2);
        due("count(5) stays", c.x.count(5), 2);
        for (int what : new int[] {-1, 7, Integer.MIN_VALUE, Integer.MAX_VALUE}) due("count(" + what + ")", c.x.count(what), -1);
    }

    public static void main(String[] args) {
        values();
        stuck();
        paces();
        ofTheShelf();
        asks();
        asksForLong();
        tells();
        count();
        Calls.ends("WorkTest");
    }
}
