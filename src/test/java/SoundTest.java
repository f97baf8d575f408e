/**
 * What the document's first sentence says, by chance (fixed seeds): none that is right gets stuck, and its value is of
 * its type; what was right stays so as it is used from the shelf; each type is below itself.
 */
public final class SoundTest {
    private static int values = 0;
    private static int tired = 0;
    private static int kept = 0;

    private static void due(String what, long got, long want) { Calls.due(what, got, want); }

    /** The kind of a value of a type (NONE: no value is of it). */
    private static int kindOf(String type) {
        int at = 0;
        while (type.charAt(at) == '!') at += 2;
        return "NBO,>".indexOf(type.charAt(at));
    }
    private static void works(Calls c, String text) {
        int how = c.x.worked(0);
        due(text + " is right and stuck", how == 2 ? 1 : 0, 0);
        if (how == 0) due("the kind of the value of " + text + ", which is of type " + c.type(), c.x.worked(2), kindOf(c.type()));
        if (how == 0) values++; else tired++;
    }
    private static String text(Texts texts, String shelf) {
        switch (texts.below(5)) {
            case 0: return texts.any(1 + texts.below(6), shelf);
            case 1: return texts.large();
            case 2: return shelf.isEmpty() ? texts.right(3) : texts.heavy(texts.below(60), shelf);
            default: return texts.right(1 + texts.below(6));
        }
    }
    private static void infers(Texts texts) {
        Calls c = new Calls();
        StringBuilder shelf = new StringBuilder();
        for (int i = 0; i < 20; i++) {
            String text = text(texts, shelf.toString());
            if (c.infers(text) != 0) continue;
            works(c, text);
            int many = c.x.count(1);
            char name = (char) ('a' + texts.below(26));
            if (c.x.keeps(name - 'a') != many + 1) continue;
            kept++;
            shelf.append(name);
            due(text + " on the shelf is below itself", c.x.shelfBelow(many, many) == 1 ? 1 : 0, 0);
            due(text + " used from the shelf fails", c.infers("" + name) == 1 ? 1 : 0, 0);
            if (c.x.judged(0) == 0) works(c, "" + name + " (" + text + ")");
        }
    }
    private static void belowItself(Texts texts) {
        Calls c = new Calls();
        for (int i = 0; i < 20; i++) {
            String type = texts.type(1 + texts.below(5));
            due(type + " is below itself", c.below(type + " " + type) == 1 ? 1 : 0, 0);
        }
    }

    public static void main(String[] args) {
        long from = args.length > 0 ? Long.parseLong(args[0]) : 1;
        long many = args.length > 1 ? Long.parseLong(args[1]) : 2000;
        for (long seed = from; seed < from + many && Calls.wrong == 0; seed++) {
            infers(new Texts(seed));
            belowItself(new Texts(seed));
        }
        due("there were many values, and many of the shelf", values > many && kept > many ? 1 : 0, 1);
        if (args.length > 1) System.out.println(values + " values, " + tired + " tired, " + kept + " kept");
        Calls.ends("SoundTest");
    }
}
