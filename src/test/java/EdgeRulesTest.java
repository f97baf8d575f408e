/** The rules 1 to 36 of part 2: which of several goes first, where each one ends, what fails, what is cut and what stays. */
public final class EdgeRulesTest {
    private static void due(String what, long got, long want) { Calls.due(what, got, want); }
    private static void due(String what, String got, String want) { Calls.due(what, got, want); }

    /** An expression, the rules of its steps, the context at its end, its type ('fails at n' if it does). */
    private static void infers(String text, String rules, String context, String ends) {
        Calls c = new Calls();
        int verdict = c.infers(text);
        due("rules of " + text, c.steps(0), rules);
        due("context of " + text, c.context(), context);
        due("end of " + text, verdict == 1 ? "fails at " + c.x.judged(6) : c.type(), ends);
    }
    /** Two types, the rules of their steps, the context at the end. */
    private static void below(String text, int verdict, String rules, String context) {
        Calls c = new Calls();
        due("below() of " + text, c.below(text), verdict);
        due("rules of " + text, c.steps(0), rules);
        due("context of " + text, c.context(), context);
        due("where " + text + " fails", c.x.judged(6), -1);
    }

    private static void checksInTheirOrder() {
        Calls.sentence("2", "CHECK e against A, the first of these");
        infers(":/x x!a>aa", "9 1 2 6 7 22", "", "!a>aa");
        infers(":,1T!a,NB", "9 1 3 6 8 22 6 8 22", "", "!a,NB");
        infers(":?TTU!aB", "9 1 4 6 8 22 6 8 22 6 8 22", "", "!aB");
        infers(":&x1x!aN", "9 1 5 8 6 7 22", "", "!aN");
        infers(":1!a!bN", "9 1 1 6 8 22", "", "!a!bN");
        infers(":/x1N", "9 6 10 6 8 24 32 0", "^0 ^1=N", "fails at 3");
        infers(":/x1,NN", "9 6 10 6 8 24 32 0", "^0 ^1=N", "fails at 3");
        infers(":,1T>NN", "9 6 14 8 8 0", "", "fails at 3");
        infers("/x,1T", "10 6 14 8 8 24 32", "^0 ^1=,NB", ">^0,NB");
        infers("/x?T1 2", "10 4 6 8 22 6 8 24 32 6 8 22", "^0 ^1=N", ">^0N");
        infers("/x&y1y", "10 5 8 6 7 24 32", "^0 ^1=N", ">^0N");
    }

    private static void checksInTheirParts() {
        Calls.sentence("2", "4 e is ?: CHECK if against B, then, else against A");
        Calls c = new Calls();
        c.infers(":?T1 2N");
        due("bytes", c.steps(3), "0 1 2 2 -1 3 3 -1 5 5 -1");
        infers(":?1TT B", "9 4 6 8 0", "", "fails at 2");
        infers(":?T1TN", "9 4 6 8 22 6 8 22 6 8 0", "", "fails at 4");
        infers(":?TT1N", "9 4 6 8 22 6 8 0", "", "fails at 3");
        Calls.sentence("2", "5 e is LET: .. cut at it");
        infers(":&x1@/yyxN", "9 5 8 6 11 10 6 7 23 28 19 6 7 24 32 22", "", "N");
        infers(":&x/yyx>NN", "9 5 10 6 7 23 28 6 7 25 24 32 22", "^0=N ^1=^0", ">NN");
        infers(":&xzxN", "9 5 0", "", "fails at 3");
        Calls.sentence("2", "2 its NAME and from come behind; .. cut at it");
        infers(":/x@/yyx>NN", "9 2 6 11 10 6 7 23 28 19 6 7 24 32 22", "", ">NN");
        infers(":/xT>NN", "9 2 6 8 0", "x:N", "fails at 3");
        infers(":/x/xx>N>BB", "9 2 2 6 7 22", "", ">N>BB");
        infers(":/x,/xxx>N,>BBN", "9 2 3 2 6 7 22 6 7 22", "", ">N,>BBN");
    }

    private static void infersNames() {
        Calls.sentence("2", "7 a NAME: the TYPE of the latest such NAME in the CONTEXT");
        infers("&x1&xTx", "12 8 12 8 7", "", "B");
        infers("&x1,&xTxx", "12 8 14 12 8 7 7", "", ",BN");
        infers("&x1&yTx", "12 8 12 8 7", "", "N");
        infers("&x1/xx", "12 8 10 6 7 23 28", "^0 ^1=^0", ">^0^0");
        infers("&x1,@/xx*x", "12 8 14 11 10 6 7 23 28 19 6 8 24 32 7", "^0=O ^1=^0", ",ON");
        infers("@x1", "11 0", "", "fails at 1");
        Calls c = new Calls();
        c.keeps("1", 'x');
        c.infers("&xTx");
        due("ahead of the shelf", c.type(), "B");
        c.infers(",&xTxx");
        due("behind it the shelf again", c.type(), ",BN");
    }

    private static void infersLets() {
        Calls.sentence("2", "12 LET: .. the NAME goes, what is behind it stays");
        infers("&x1/yx", "12 8 10 6 7 24 32", "^0 ^1=N", ">^0N");
        infers("&x/yyx", "12 10 6 7 23 28 7", "^0 ^1=^0", ">^0^0");
        infers("&x/yy/zx", "12 10 6 7 23 28 10 6 7 24 32", "^0 ^1=^0 ^2 ^3=>^0^0", ">^0>^1^1");
        infers("&x1,x/yx", "12 8 14 7 10 6 7 24 32", "^0 ^1=N", ",N>^0N");
        infers("&x/yy@x1", "12 10 6 7 23 28 11 7 19 6 8 24 32", "^0=N ^1=^0", "N");
    }

    private static void infersIfs() {
        Calls.sentence("2", "13 ?: CHECK if against B, INFER then, CHECK else against that; that");
        infers("?T:/xx>NN:/yy!a>aa", "13 6 8 22 9 2 6 7 22 6 9 1 2 6 7 22 21 25 24 32 22", "", ">NN");
        infers("?T:/yy!a>aa:/xx>NN", "13 6 8 22 9 1 2 6 7 22 1 6 9 2 6 7 22 25 0", "c1", "fails at 14");
        infers("?1 2 3", "13 6 8 0", "", "fails at 1");
        infers("?T1T", "13 6 8 22 8 6 8 0", "", "fails at 3");
        Calls c = new Calls();
        c.infers("?T1 2");
        due("bytes", c.steps(3), "0 1 1 -1 2 4 4 -1");
    }

    private static void infersParts() {
        Calls.sentence("2", "15 [ ]: as long as it is ALL a: a GUESS comes behind all; a PAIR; an open GUESS: it is split; else it FAILS");
        infers("[:,1T!a!b,NB", "15 9 1 1 3 6 8 22 6 8 22", "^0 ^1", "N");
        infers("]:,1T!a!b,NB", "15 9 1 1 3 6 8 22 6 8 22", "^0 ^1", "B");
        infers("[1", "15 8", "", "fails at 1");
        infers("]T", "15 8", "", "fails at 1");
        infers("[*", "15 8", "", "fails at 1");
        infers("]/xx", "15 10 6 7 23 28", "^0 ^1=^0", "fails at 3");
        infers("[:1!a!bN", "15 9 1 1 6 8 22", "^0 ^1", "fails at 2");
        infers("/x[x", "10 6 15 7 23 28", "^2 ^3 ^0=,^0^1 ^1=^0", ">,^0^1^0");
        infers("/x]x", "10 6 15 7 23 28", "^2 ^3 ^0=,^0^1 ^1=^0", ">,^0^1^1");
        infers("/x+[x[x", "10 6 16 6 15 7 23 27 6 15 7 22 24 32", "^2 ^3=N ^0=,^0^1 ^1=N", ">,N^0N");
        infers(":/x[x>!aaN", "9 2 6 15 7 23 27", "", ">!aaN");
        infers(":/x+[x1>!a,aBN", "9 2 6 16 6 15 7 23 27 6 8 22 22", "", ">!a,aBN");
        Calls c = new Calls();
        c.infers("/x]x");
        due("that for the first has the higher number, and stands behind", c.x.entry(0, 1) + 10 * c.x.entry(1, 1), 2 + 10 * 3);
        c.infers("/x]xz");
        due("the judgement stays, as there was a fault", c.x.judged(0), 0);
        c.infers("/x,]xz");
        due("that for the second was split off first", c.context(), "^2 ^3 ^0=,^0^1 ^1 x:^0");
    }

    private static void infersTheOthers() {
        Calls.sentence("2", "8, 9, 10, 14, 16");
        infers("0", "8", "", "N");
        infers("U", "8", "", "B");
        infers("*", "8", "", "O");
        infers(":1!aN", "9 1 6 8 22", "", "!aN");
        infers("::1!aNN", "9 6 9 1 6 8 22 21 22", "", "N");
        infers("/x@/yyx", "10 6 11 10 6 7 23 28 19 6 7 23 28 23 28", "^0 ^1=^0", ">^0^0");
        infers(",z1", "14 0", "", "fails at 1");
        infers(",1z", "14 8 0", "", "fails at 2");
        infers("+1 2", "16 6 8 22 6 8 22", "", "N");
        infers("<1 2", "16 6 8 22 6 8 22", "", "B");
        infers("<T2", "16 6 8 0", "", "fails at 1");
        infers("<2T", "16 6 8 22 6 8 0", "", "fails at 2");
        infers("+<1 2 3", "16 6 16 6 8 22 6 8 22 0", "", "fails at 4");
    }

    private static void applies() {
        Calls.sentence("2", "APPLY A to e: 17 A is ALL a; 18 A is an open GUESS; 19 A is an ARROW");
        infers(":/x@x1>!aaN", "9 2 6 11 7 17 18 6 8 24 32 23 27", "", ">!aaN");
        infers("@:/x/yx!a!b>a>ba1", "11 9 1 1 2 2 6 7 22 17 17 19 6 8 24 32", "^0=N ^1", ">^0N");
        infers("/f@f1", "10 6 11 7 18 6 8 24 32 23 28", "^2 ^3=N ^0=>^0^1 ^1=^0", ">>N^0^0");
        infers("/f@f@f1", "10 6 11 7 18 6 11 7 19 6 8 24 32 23 27 24 32", "^2=N ^3=N ^0=>^0^1 ^1=N", ">>NNN");
        infers("@1 2", "11 8 0", "", "fails at 1");
        infers("@,1T2", "11 14 8 8 0", "", "fails at 3");
        infers("@:1!aN2", "11 9 1 6 8 22 17 0", "^0", "fails at 2");
    }

    private static void belows() {
        Calls.sentence("2", "A BELOW B: 20 B is ALL b; 21 A is ALL a; 22 both are the same");
        below("!aN!aN", 0, "20 21 22", "");
        below("!aN N", 0, "21 22", "");
        below("N!aN", 0, "20 22", "");
        below("!a!bN!a!bN", 0, "20 20 21 21 22", "");
        below("!aa!bb", 0, "20 21 23 27", "");
        below("!a!b>ab!a>aa", 0, "20 21 21 25 24 32 23 27", "");
        below("!a>aa!a!b>ab", 1, "20 20 21 25 24 32 0", "c0 c1 m0 ^0=#0");
        for (String one : new String[] {"N", "B", "O"}) for (String other : new String[] {"N", "B", "O"}) below(one + other, one.equals(other) ? 0 : 1, one.equals(other) ? "22" : "0", "");
        for (String one : new String[] {"N", ">NN", ",NN"}) for (String other : new String[] {"N", ">NN", ",NN"}) due("below() of " + one + other, new Calls().below(one + other), one.equals(other) ? 0 : 1);
        Calls.sentence("2", "22 the same open GUESS; 23 A is an open GUESS that isn't in B; 24 B is an open GUESS that isn't in A");
        infers("/x&y?Txxy", "10 5 13 6 8 22 7 6 7 22 6 7 23 28", "^0 ^1=^0", ">^0^0");
        infers("/x&y?T,xxx1", "10 5 13 6 8 22 14 7 7 6 7 0", "^0 ^1 x:^0", "fails at 9");
        infers("/x&y?Tx,xx1", "10 5 13 6 8 22 7 6 14 7 7 0", "^0 ^1 x:^0", "fails at 9");
        infers("/x@xx", "10 6 11 7 18 6 7 0", "^2 ^3 ^0=>^0^1 ^1 x:^0", "fails at 4");
        Calls.sentence("2", "25 from of B BELOW from of A, then to of A BELOW to of B; 26 the first, then the second");
        below(">NB>NB", 0, "25 22 22", "");
        below(">NB>BB", 1, "25 0", "");
        below(">NN>NB", 1, "25 22 0", "");
        below(",NB,NB", 0, "26 22 22", "");
        below(",NB,BB", 1, "26 0", "");
        below(",NN,NB", 1, "26 22 0", "");
        below(">!aNO>NO", 0, "25 20 22 22", "");
        below(">NO>!aNO", 0, "25 21 22 22", "");
    }

    private static void lefts() {
        Calls.sentence("2", "LEFT g, A: 27 without ALL in A, and all stand ahead of g; 28; 29; 30; 31");
        below("!aa N", 0, "21 23 27", "");
        below("!aa>,NBO", 0, "21 23 27", "");
        below("!aa!b>bb", 0, "20 21 23 27", "");
        below("!a,aN,!bbN", 1, "21 26 20 23 0", "m0 ^0 c0");
        below("!aa>!bNN", 0, "21 23 29 36 32 27", "");
        below("!aa>!bbN", 0, "21 23 29 36 33 27", "");
        below("!aa>N!bN", 0, "21 23 29 32 31 27", "");
        below("!aa>N!bb", 1, "21 23 29 32 31 0", "m0 ^1 ^2=N ^0=>^0^1 c0");
        below("!aa,!bNN", 0, "21 23 30 31 27 27", "");
        below("!aa,!bbN", 1, "21 23 30 31 0", "m0 ^1 ^2 ^0=,^0^1 c0");
        below("!aa,N!bN", 0, "21 23 30 27 31 27", "");
    }

    private static void rights() {
        Calls.sentence("2", "RIGHT A, g: 32, 33, 34, 35 as 27 to 30; 36 A is ALL b");
        below("!a>aN>NN", 0, "21 25 24 32 22", "");
        below("!a>aN>>NNN", 0, "21 25 24 32 22", "");
        below("!a>aN>>!bNNN", 0, "21 25 24 34 31 27 32 22", "");
        below("!a>aN>>!bbNN", 1, "21 25 24 34 31 0", "m0 ^1 ^2 ^0=>^0^1 c0");
        below("!a>aN>>N!bbN", 0, "21 25 24 34 27 36 33 22", "");
        below("!a>aN>,!bNNN", 0, "21 25 24 35 36 32 32 22", "");
        below("!a>aN>,N!bbN", 0, "21 25 24 35 32 36 33 22", "");
    }

    public static void main(String[] args) {
        checksInTheirOrder();
        checksInTheirParts();
        infersNames();
        infersLets();
        infersIfs();
        infersParts();
        infersTheOthers();
        applies();
        belows();
        lefts();
        rights();
        Calls.ends("EdgeRulesTest");
    }
}
