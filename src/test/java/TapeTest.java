/** Promises 1 to 4: a new object, feed, end, fault. */
public final class TapeTest {
    private static void due(String what, long got, long want) { Calls.due(what, got, want); }

    private static void newObject() {
        Calls.promise(1);
        RankChecker x = new RankChecker();
        due("NONE", RankChecker.NONE, -1);
        for (int what = -2; what <= 10; what++) due("judged(" + what + ")", x.judged(what), -1);
        for (int what = 0; what <= 6; what++) due("count(" + what + ")", x.count(what), 0);
        due("type(-1)", x.type(-1), -1);
        due("type(0)", x.type(0), -1);
        due("step(0, 0) throws", new Calls().noStep(0, 0) ? 1 : 0, 1);
        due("entry(0, 0)", x.entry(0, 0), -1);
        due("entryType(0, -1)", x.entryType(0, -1), -1);
        due("keeps(0)", x.keeps(0), -1);
        due("drops()", x.drops(), -1);
        due("shelf(0, 0)", x.shelf(0, 0), -1);
        due("shelfType(0, -1)", x.shelfType(0, -1), -1);
        due("shelfBelow(0, 0)", x.shelfBelow(0, 0), -1);
        due("worked(0)", x.worked(0), -2);
        due("byRule(1)", x.byRule(1), -1);
        due("asks()", x.asks(), -2);
    }

    private static void feed() {
        Calls.promise(2);
        RankChecker x = new RankChecker();
        due("feed of no byte", x.feed(0, 0, 0, 0, 0), 0);
        due("feed N, a gap, B", x.feed(0x4e000000, 0, 0, 0, 0x42), 2);
        due("fault(2) of NB", x.fault(2), -1);
        x.end(0);
        due("feed, highest first", x.feed(0x3e4e4200, 0, 0, 0, 0), 3);
        due("fault(1) of >NB", x.fault(1), -1);
        x.end(0);
        due("feed of bytes of 255", x.feed(-1, 0, 0, 0, Integer.MIN_VALUE), 5);
        due("their fault", x.fault(0), 0);
        x.end(0);
        for (int n = 20; n <= 300; n += 20) due("feed of 20 blanks", x.feed(0x20202020, 0x20202020, 0x20202020, 0x20202020, 0x20202020), n);
        due("feed of none to a full tape", x.feed(0, 0, 0, 0, 0), 300);
        due("feed of the 301st", x.feed(0, 0, 0x4e0000, 0, 0), -1);
        due("it stays full", x.count(0), 300);
        for (int shift = 0; shift < 32; shift++) {
            for (int place = 0; place < 5; place++) {
                int one = 1 << shift;
                due("feed of bit " + shift, x.feed(place == 0 ? one : 0, place == 1 ? one : 0, place == 2 ? one : 0, place == 3 ? one : 0, place == 4 ? one : 0), -1);
            }
        }
        x.end(281);
        due("feed of 20 to 281", x.feed(-1, -1, -1, -1, -1), -1);
        due("it has 281", x.count(0), 281);
        due("feed of 19 to 281", x.feed(-1, -1, -1, -1, 0x1010100), 300);
        Calls y = new Calls();
        due("a full expression", y.more(Calls.times(" ", 299) + "x"), 300);
        due("its fault", y.x.fault(0), -1);
        due("infers() of it", y.x.infers(), 1);
        due("where it fails", y.x.judged(6), 299);
    }

    private static void end() {
        Calls.promise(3);
        Calls c = new Calls();
        due("end(0) of an empty tape", c.x.end(0) ? 1 : 0, 1);
        due("end(1) of an empty tape", c.x.end(1) ? 1 : 0, 0);
        due("end(-1)", c.x.end(-1) ? 1 : 0, 0);
        c.more("+1 2x");
        due("end(6) of 5", c.x.end(6) ? 1 : 0, 0);
        due("it has 5", c.x.count(0), 5);
        due("end(5)", c.x.end(5) ? 1 : 0, 1);
        due("fault of +1 2x", c.x.fault(0), 4);
        due("end(4)", c.x.end(4) ? 1 : 0, 1);
        due("it has 4", c.x.count(0), 4);
        due("fault of +1 2", c.x.fault(0), -1);
        due("end(5) of 4", c.x.end(5) ? 1 : 0, 0);
        due("end of the least int", c.x.end(Integer.MIN_VALUE) ? 1 : 0, 0);
        due("end of the greatest int", c.x.end(Integer.MAX_VALUE) ? 1 : 0, 0);
        c.more("3");
        due("fault of +1 23", c.x.fault(0), -1);
    }

    private static void fault(String text, int what, int want) { due("fault(" + what + ") of '" + text + "'", new Calls().fault(text, what), want); }

    private static void expressionFaults() {
        Calls.promise(4);
        fault("", 0, 0);
        fault("   ", 0, 3);
        for (String s : new String[] {"x", "0", "9", "00", "07", "99", "T", "U", "*", "/xx", "@xy", ":1N", "&xTx", "?TUT", ",TT", "[x", "]x", "+1 2", "<1 2",
            " / x x ", "  1  ", ":1!a a", ",1T", "+x1", "@/x x 12", "/ b /b b", ":/xx>!a>aa!bb", "+:1N2", "+12 3"}) fault(s, 0, -1);
        for (String s : new String[] {"/", "@", ":", "&", "?", ",", "[", "]", "+", "<", "/x", "@x", ":1", ":1>", ":1>N", ":1!", ":1!a", "&x", "&x1", "?T", "?TT", ",1", "+1", "+12", "+1 ", "@ x "}) fault(s, 0, s.length());
        fault("123", 0, 2);
        fault("+1234", 0, 3);
        fault("1 2", 0, 2);
        fault("x y", 0, 2);
        fault("xy", 0, 1);
        fault("TT", 0, 1);
        fault("/1x", 0, 1);
        fault("/Tx", 0, 1);
        fault("&11 2", 0, 1);
        fault("/ /xx", 0, 2);
        fault("N", 0, 0);
        fault(">xx", 0, 0);
        fault("!xx", 0, 0);
        fault("A", 0, 0);
        fault("@x\u00ff", 0, 2);
        fault("@x\u0001", 0, 2);
        fault("@\tx", 0, 1);
        fault(":1T", 0, 2);
        fault(":1 1", 0, 3);
        fault(":1 a", 0, 3);
        fault(":1,N!aab", 0, 7);
        fault(",:1!aa:1a", 0, 8);
        fault(":/x:xa!a>aa", 0, 5);
        fault("`", 0, 0);
        fault("{", 0, 0);
        fault(":", 0, 1);
        fault(";", 0, 0);
        fault("@x-", 0, 2);
    }

    private static void typeFaults() {
        Calls.promise(4);
        for (String s : new String[] {"N", "B", "O", ">NB", ",NB", "!aa", "!a!bb", "!a!aa", " > N ! z , z z ", "!a>a!b>ab", "!aN"}) {
            fault(s, 1, -1);
            fault(s + s, 2, -1);
            fault(s, 2, s.length());
            fault(s + s, 1, s.length() + (s.charAt(0) == ' ' ? 1 : 0));
            fault(s + s + "N", 2, 2 * s.length());
        }
        fault("", 1, 0);
        fault("", 2, 0);
        fault(" ", 2, 1);
        fault("a", 1, 0);
        fault("!ab", 1, 2);
        fault(",!aaa", 1, 4);
        fault(",!aaN", 1, -1);
        fault("!a,a!b>abb", 2, 9);
        fault("!a,!aaa", 1, -1);
        fault("!aaa", 2, 3);
        fault("!N", 1, 1);
        fault("!!", 1, 1);
        fault("! ", 1, 2);
        fault("!a", 1, 2);
        fault(">N", 1, 2);
        fault("T", 1, 0);
        fault("1", 1, 0);
        fault("N1", 2, 1);
        fault("N", 3, -2);
        fault("N", -1, -2);
        fault("N", Integer.MAX_VALUE, -2);
        fault("", -2, -2);
    }

    private static void deepFaults() {
        Calls.promise(4);
        fault(Calls.times("[", 19) + "x", 0, -1);
        fault(Calls.times("[", 20) + "x", 0, 20);
        fault(Calls.times("[", 20), 0, 20);
        fault(Calls.times("[ ", 20) + "x", 0, 40);
        fault(Calls.times("/x", 19) + "x", 0, -1);
        fault(Calls.times("/x", 20) + "x", 0, 40);
        fault(Calls.times("/x", 20), 0, 40);
        fault(Calls.times("+1 ", 19) + "1", 0, -1);
        fault(Calls.times("+1 ", 20) + "1", 0, 58);
        fault(Calls.times(":", 19) + "1" + Calls.times("N", 19), 0, -1);
        fault(Calls.times("!a", 19) + "a", 1, -1);
        fault(Calls.times("!a", 20) + "a", 1, 40);
        fault(Calls.times(">N", 19) + "N", 1, -1);
        fault(Calls.times(">N", 20) + "N", 1, 39);
        fault(Calls.times(">", 19) + Calls.times("N", 20), 1, -1);
        fault(Calls.times(">", 20) + Calls.times("N", 21), 1, 20);
        fault(Calls.times(",N", 19) + "N" + Calls.times("!a", 19) + "a", 2, -1);
        fault(Calls.times(",N", 19) + "N" + Calls.times("!a", 20) + "a", 2, 39 + 40);
        // a type of a NOTED one is within that and all that it is within
        fault(":1" + Calls.times(">N", 18) + "N", 0, -1);
        fault(":1" + Calls.times(">N", 19) + "N", 0, 2 + 36 + 1);
        fault(Calls.times("[", 18) + ":1N", 0, -1);
        fault(Calls.times("[", 19) + ":1N", 0, 20);
    }

    public static void main(String[] args) {
        newObject();
        feed();
        end();
        expressionFaults();
        typeFaults();
        deepFaults();
        Calls.ends("TapeTest");
    }
}
