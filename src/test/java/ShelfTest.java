/** Promises 12 to 15 and 19: keeps, drops, shelf, shelfType, shelfBelow. */
public final class ShelfTest {
    private static void due(String what, long got, long want) { Calls.due(what, got, want); }
    private static void due(String what, String got, String want) { Calls.due(what, got, want); }

    private static void keeps() {
        Calls.promise(12);
        Calls c = new Calls();
        due("keeps(0) ahead of all", c.x.keeps(0), -1);
        c.infers("+1T");
        due("keeps(0) of what fails", c.x.keeps(0), -1);
        c.infers(Calls.tree(",", 76, "T"));
        due("keeps(0) of what is too long", c.x.keeps(0), -1);
        c.below("NN");
        due("keeps(0) of types", c.x.keeps(0), -1);
        c.infers("/xx");
        for (int name : new int[] {-1, 26, Integer.MIN_VALUE, Integer.MAX_VALUE}) due("keeps(" + name + ")", c.x.keeps(name), -1);
        due("keeps(25)", c.x.keeps(25), 1);
        due("keeps(24), it was put there", c.x.keeps(24), -1);
        due("keeps(25), it was put there", c.x.keeps(25), -1);
        c.infers("/xx");
        due("keeps(25), there is it", c.x.keeps(25), -1);
        due("keeps(0)", c.x.keeps(0), 2);
        c.infers("1");
        c.tape("@").x.infers();
        due("keeps(1) behind a fault", c.x.keeps(1), 3);
        c.infers("T");
        c.below("NB");
        due("keeps(2) behind below()", c.x.keeps(2), -1);
        c.infers("T");
        c.asks("N");
        c.x.shelfBelow(0, 0);
        due("keeps(2) behind asks(), shelfBelow()", c.x.keeps(2), 4);
        for (int name = 3; name <= 6; name++) {
            c.infers("*");
            due("keeps(" + name + ")", c.x.keeps(name), name + 2);
        }
        c.infers("*");
        due("keeps(7) on a full shelf", c.x.keeps(7), -1);
        due("how many there are", c.x.count(1), 8);
        due("drops()", c.x.drops(), 7);
        due("keeps(7), the same judgement", c.x.keeps(7), 8);
        due("drops()", c.x.drops(), 7);
        due("keeps(8), it was put there", c.x.keeps(8), -1);
    }

    private static void uses() {
        Calls.promise(12);
        Calls c = new Calls();
        c.keeps("/xx", 'i');
        due("two types of one name", c.infers(",@i1@iT"), 0);
        due("its type", c.type(), ",NB");
        due("keeps", c.x.keeps('p' - 'a'), 2);
        due("a name of the shelf in another one", c.infers("+[p1"), 0);
        due("one of its own is ahead", c.infers("/i+i1"), 0);
        due("its type", c.type(), ">NN");
        due("worked(3) of what uses it", c.infers("+[p1") + c.x.worked(3), 2);
        c.x.drops();
        due("a name that went", c.infers("[p"), 1);
        due("where", c.x.judged(6), 1);
    }

    private static void drops() {
        Calls.promise(13);
        Calls c = new Calls();
        due("drops() of none", c.x.drops(), -1);
        c.keeps("1", 'a');
        c.keeps("T", 'b');
        due("drops()", c.x.drops(), 1);
        due("it is gone", c.x.shelf(1, 0), -1);
        due("the other one is there", c.x.shelf(0, 0), 0);
        due("drops()", c.x.drops(), 0);
        due("drops() of none", c.x.drops(), -1);
        due("how many there are", c.x.count(1), 0);
        due("its name may come again", c.keeps("*", 'b'), 1);
        due("its type", c.shelfType(0), "O");
    }

    private static void shelf() {
        Calls.promise(14);
        // text, type, signs, rank, guesses, expressions
        Object[][] all = {
            {"1", "N", 1, 0, 0, 1}, {"/xx", "!a>aa", 4, 1, 1, 2}, {"/x/yx", "!a!b>a>ba", 7, 1, 2, 3}, {"/f/x@fx", "!a!b>>ab>ab", 9, 1, 2, 5},
            {":/f,@f1@fT>!a>aa,NB", ">!a>aa,NB", 8, 2, 0, 9}, {",/xx:/yy!b>bb", "!a,>aa!b>bb", 9, 1, 1, 6},
            {":/f1>>!a>aaNN", ">>!a>aaNN", 8, 3, 0, 3}, {"/p,]p[p", "!a!b>,ab,ba", 9, 1, 2, 6}, {"&x1/y,xy", "!a>a,Na", 6, 1, 1, 6}
        };
        for (Object[] one : all) {
            Calls c = new Calls();
            due("keeps of " + one[0], c.keeps((String) one[0], 'k'), 1);
            due("name", c.x.shelf(0, 0), 10);
            for (int what = 1; what <= 4; what++) due("shelf(0, " + what + ") of " + one[0], c.x.shelf(0, what), (Integer) one[what + 1]);
            Calls.promise(15);
            due("type of " + one[0], c.shelfType(0), (String) one[1]);
            int n = ((String) one[1]).length();
            due("shelfType(0, -1)", c.x.shelfType(0, -1), n);
            for (int k : new int[] {n, -2, Integer.MIN_VALUE, Integer.MAX_VALUE}) due("shelfType(0, " + k + ")", c.x.shelfType(0, k), -1);
            for (int i : new int[] {-1, 1, 8, Integer.MAX_VALUE}) due("shelfType(" + i + ", -1)", c.x.shelfType(i, -1), -1);
            Calls.promise(14);
            for (int what : new int[] {-1, 5, Integer.MAX_VALUE}) due("shelf(0, " + what + ")", c.x.shelf(0, what), -1);
            for (int i : new int[] {-1, 1, 8, Integer.MIN_VALUE}) due("shelf(" + i + ", 0)", c.x.shelf(i, 0), -1);
        }
        Calls c = new Calls();
        for (int i = 0; i < 8; i++) c.keeps(Calls.times("/x", i) + "1", (char) ('z' - i));
        for (int i = 0; i < 8; i++) {
            due("name of the " + i + "-th", c.x.shelf(i, 0), 25 - i);
            due("expressions of the " + i + "-th", c.x.shelf(i, 4), i + 1);
            due("guesses of the " + i + "-th", c.x.shelf(i, 3), i);
            due("signs of the " + i + "-th", c.x.shelf(i, 1), 3 * i + 1);
        }
    }

    private static void longTypes() {
        Calls.promise(15);
        Calls c = new Calls();
        // 40 arrows of two signs more and as many ALLS: more than 150 signs, though what was judged has 149
        due("a type of 143 signs", c.infers(Calls.tree(",", 36, "/x1")), 0);
        due("its signs", c.x.type(-1), 179);
        due("keeps", c.x.keeps(0), 1);
        due("its signs, with its ALLS", c.x.shelf(0, 1), 179);
        due("told", c.x.shelfType(0, -1), 215);
        due("its begin", c.shelfType(0).substring(0, 56), "!a!b!c!d!e!f!g!h!i!j!k!l!m!n!o!p!q!r!s!t!u!v!w!x!y!z!a!b");
        due("used, it is too long", c.infers("a"), 2);
        due("its step is noted", c.steps(0), "7");
        due("its entry", c.x.entry(0, 2), 179);
        due("told", c.x.entryType(0, -1), 215);
        due("put to work, it is too long", c.infers("@a1"), 2);
        due("its steps", c.steps(0), "11 7");
        due("not used, it is not", c.infers("1"), 0);
        Calls.promise(19);
        due("below itself, it is too long", c.x.shelfBelow(0, 0), 2);
        Calls.promise(16);
        c.infers("a");
        due("its value", c.x.worked(3), 71);
        due("its paces", c.x.worked(1), 72);
    }

    private static void shelfBelow() {
        Calls.promise(19);
        Calls c = new Calls();
        c.keeps("/xx", 'i');
        c.keeps(":/xx>NN", 'n');
        c.keeps("/x/yx", 'k');
        c.keeps("1", 'o');
        String[] all = {"0011", "1011", "1101", "1110"};
        for (int i = 0; i < 4; i++) for (int j = 0; j < 4; j++) due("shelfBelow(" + i + ", " + j + ")", c.x.shelfBelow(i, j), all[i].charAt(j) - '0');
        for (int[] p : new int[][] {{-1, 0}, {0, -1}, {4, 0}, {0, 4}, {8, 8}, {Integer.MIN_VALUE, 0}, {0, Integer.MAX_VALUE}}) due("shelfBelow(" + p[0] + ", " + p[1] + ")", c.x.shelfBelow(p[0], p[1]), -1);
        due("the judgement stays", c.type(), "N");
        due("its context stays", c.x.judged(4), 3);
        due("its steps stay", c.steps(0), "8");
        due("right ones", c.x.count(3), 4);
        due("ones that failed", c.x.count(4), 0);
        due("most steps", c.x.count(2), 11);
    }

    public static void main(String[] args) {
        keeps();
        uses();
        drops();
        shelf();
        longTypes();
        shelfBelow();
        Calls.ends("ShelfTest");
    }
}
