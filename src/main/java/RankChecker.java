import java.util.NoSuchElementException;

/**
 * A checker of types of any rank, in two directions, with an ordered context of guesses,
 * a shelf of expressions that were right, and a worker that works values out.
 * All rows are made once, in the constructors; no call makes an object.
 */
public final class RankChecker {
    public static final int NONE = -1;

    private static final int NOT_THERE = -2;
    private static final int FIRST_FAULT = -3;
    private static final int ASKED_STEPS = 500;

    private final Reader reader;
    private final Shelf shelf;
    private final Judge judge;
    private final Worker worker;
    private final Teller teller;
    private final Judgement judgement;
    private final Judgement trial;
    private Term latest;
    private Term spare;
    private boolean inferred;
    private int mostSteps;
    private final int[] ends;

    public RankChecker() {
        latest = new Term();
        spare = new Term();
        shelf = new Shelf();
        judgement = new Judgement();
        trial = new Judgement();
        reader = new Reader(spare);
        judge = new Judge(judgement, latest);
        worker = new Worker(latest, shelf);
        teller = new Teller();
        inferred = false;
        mostSteps = 0;
        ends = new int[3];
    }

    public int feed(int a, int b, int c, int d, int e) {
        int more = Reader.bytesIn(a) + Reader.bytesIn(b) + Reader.bytesIn(c) + Reader.bytesIn(d) + Reader.bytesIn(e);
        if (reader.length + more > Reader.ROOM) {
            return NONE;
        }
        reader.put(a);
        reader.put(b);
        reader.put(c);
        reader.put(d);
        reader.put(e);
        return reader.length;
    }

    public boolean end(int n) {
        if (n < 0 || n > reader.length) {
            return false;
        }
        reader.length = n;
        return true;
    }

    public int fault(int what) {
        if (what == 0) {
            return reader.readTerm(spare);
        }
        return what == 1 || what == 2 ? reader.readTypes(what) : NOT_THERE;
    }

    public int infers() {
        if (reader.readTerm(spare) != NONE) {
            return NONE;
        }
        reader.length = 0;
        Term read = spare;
        spare = latest;
        latest = read;
        inferred = true;
        judge.startTerm(judgement, latest, shelf, Judgement.MOST_STEPS);
        judge.run();
        return counted();
    }

    public int below() {
        if (reader.readTypes(2) != NONE) {
            return NONE;
        }
        reader.length = 0;
        judge.startTypes(judgement, reader.first, reader.second);
        judge.run();
        return counted();
    }

    private int counted() {
        mostSteps = Math.max(mostSteps, judgement.steps);
        int verdict = judgement.verdict;
        if (verdict >= 0 && verdict < ends.length) {
            ends[verdict]++;
        }
        return verdict;
    }

    public int judged(int what) {
        if (judgement.verdict == NONE) {
            return NONE;
        }
        Row found = judgement.found;
        switch (what) {
            case 0: return judgement.verdict;
            case 1: return judgement.steps;
            case 2: return judgement.context.guesses;
            case 3: return judgement.context.constants;
            case 4: return judgement.context.size;
            case 5: return judgement.mostEntries;
            case 6: return judgement.failedAt;
            case 7: return teller.guessesIn(found);
            case 8: return found.length == 0 ? NONE : teller.rank(found.signs, 0, found.length);
            default: return NONE;
        }
    }

    public int type(int k) {
        Row found = judgement.found;
        return found.length == 0 ? NONE : teller.told(found.signs, 0, found.length, k);
    }

    public int step(int i, int what) throws NoSuchElementException {
        if (judgement.verdict == NONE || i < 0 || i >= judgement.steps || what < 0 || what >= Judgement.WIDTH) {
            throw new NoSuchElementException();
        }
        return judgement.notes[i * Judgement.WIDTH + what];
    }

    public int entry(int i, int what) {
        Context context = judgement.context;
        if (i < 0 || i >= context.size) {
            return NONE;
        }
        switch (what) {
            case 0: return context.kinds[i];
            case 1: return context.numbers[i];
            case 2: return context.lengthOf(i);
            default: return NONE;
        }
    }

    public int entryType(int i, int k) {
        Context context = judgement.context;
        if (i < 0 || i >= context.size || context.types[i] == NONE) {
            return NONE;
        }
        int from = context.types[i] + 1;
        return teller.told(context.kept.signs, from, from + context.lengthOf(i), k);
    }

    public int keeps(int name) {
        if (!judgement.mayBeKept() || !shelf.takes(name)) {
            return NONE;
        }
        int opened = teller.guessesIn(judgement.found);
        teller.close(judgement.found, shelf.put(name, latest, opened));
        judgement.kept = true;
        return shelf.size;
    }

    public int drops() {
        if (shelf.size == 0) {
            return NONE;
        }
        shelf.size--;
        return shelf.size;
    }

    public int shelf(int i, int what) {
        if (!shelf.has(i)) {
            return NONE;
        }
        Row row = shelf.types[i];
        switch (what) {
            case 0: return shelf.names[i];
            case 1: return row.length;
            case 2: return teller.rank(row.signs, 0, row.length);
            case 3: return shelf.opened[i];
            case 4: return shelf.terms[i].size;
            default: return NONE;
        }
    }

    public int shelfType(int i, int k) {
        if (!shelf.has(i)) {
            return NONE;
        }
        Row row = shelf.types[i];
        return teller.told(row.signs, 0, row.length, k);
    }

    public int worked(int what) {
        if (!inferred || what < 0 || what > 3) {
            return NOT_THERE;
        }
        worker.workOut(latest, shelf);
        switch (what) {
            case 0: return worker.how;
            case 1: return worker.paces;
            case 2: return worker.answerKind();
            default: return worker.answerNumber();
        }
    }

    public int asks() {
        if (!inferred) {
            return NOT_THERE;
        }
        int place = reader.readTypes(1);
        if (place != NONE) {
            return FIRST_FAULT - place;
        }
        reader.length = 0;
        int answer = NONE;
        int used = 0;
        for (int node = 0; node < latest.size && used < ASKED_STEPS && answer == NONE; node++) {
            latest.wrap(node, reader.first);
            judge.startTerm(trial, latest, shelf, Math.min(Judgement.MOST_STEPS, ASKED_STEPS - used));
            judge.run();
            used += trial.steps;
            answer = trial.verdict == Judgement.RIGHT ? latest.at(node) : NONE;
        }
        latest.unwrap();
        return answer;
    }

    public int tells(int what) {
        if (what < 0 || what > 3 || reader.readTypes(2) != NONE) {
            return NONE;
        }
        reader.length = 0;
        Row row = reader.first;
        switch (what) {
            case 0: return row.length;
            case 1: return teller.rank(row.signs, 0, row.length);
            case 2: return row.same(reader.second) ? 1 : 0;
            default: return row.alls();
        }
    }

    public int shelfBelow(int i, int other) {
        if (!shelf.has(i) || !shelf.has(other)) {
            return NONE;
        }
        judge.startTypes(trial, shelf.types[i], shelf.types[other]);
        judge.run();
        return trial.verdict;
    }

    public int count(int what) {
        switch (what) {
            case 0: return reader.length;
            case 1: return shelf.size;
            case 2: return mostSteps;
            case 3: return ends[Judgement.RIGHT];
            case 4: return ends[Judgement.FAILS];
            case 5: return ends[Judgement.TOO_LONG];
            case 6: return inferred ? latest.size : 0;
            default: return NONE;
        }
    }

    public int byRule(int rule) {
        if (judgement.verdict == NONE || rule < 1 || rule > Judge.LAST_RULE) {
            return NONE;
        }
        int found = 0;
        for (int i = 0; i < judgement.steps; i++) {
            if (judgement.notes[i * Judgement.WIDTH] == rule) {
                found++;
            }
        }
        return found;
    }

    /**
     * Types as rows of signs, each sign ahead of its parts. A sign is its kind and, above the low
     * four bits, a number: of a VARIABLE and of the ALL it stands in the same one, given in the
     * order of the ALLS, so that types that differ in letters alone are equal rows.
     */
    private static final class Row {
        static final int NUMBERS = 0;
        static final int TRUTHS = 1;
        static final int THING = 2;
        static final int VARIABLE = 3;
        static final int ARROW = 4;
        static final int PAIR = 5;
        static final int ALL = 6;
        static final int GUESS = 7;
        static final int CONSTANT = 8;

        final int[] signs;
        int length;
        /** More signs were put than there is room for; what the row has is then a part alone. */
        boolean over;

        Row(int room) {
            signs = new int[room > 0 ? room : 0];
            length = 0;
            over = false;
        }

        static int sign(int kind, int number) {
            return kind + 16 * number;
        }

        static int kindOf(int sign) {
            return sign & 15;
        }

        static int numberOf(int sign) {
            return sign >> 4;
        }

        static int partsOf(int sign) {
            int kind = sign & 15;
            if (kind == ARROW || kind == PAIR) {
                return 2;
            }
            return kind == ALL ? 1 : 0;
        }

        void clear() {
            length = 0;
            over = false;
        }

        void add(int sign) {
            if (length < signs.length) {
                signs[length] = sign;
                length++;
            } else {
                over = true;
            }
        }

        void put(int[] from, int at, int end) {
            for (int i = at; i < end && i >= 0 && i < from.length; i++) {
                add(from[i]);
            }
        }

        /** A part of another row comes behind all, its length ahead of it: where. NONE: that row is over, or this one gets so. */
        int keep(Row row, int from, int to) {
            if (row.over) {
                return NONE;
            }
            int many = to - from;
            if (from < 0 || many < 0 || to > row.length || length + 1 + many > signs.length) {
                over = true;
                return NONE;
            }
            int place = length;
            signs[place] = many;
            System.arraycopy(row.signs, from, signs, place + 1, many);
            length += 1 + many;
            return place;
        }

        /** As a type of one sign. */
        int keepSign(int sign) {
            add(1);
            add(sign);
            return over ? NONE : length - 2;
        }

        /** How long the type that is kept at a place is. */
        int keptLength(int place) {
            return place >= 0 && place < length ? signs[place] : 0;
        }

        int at(int i) {
            return i >= 0 && i < length ? signs[i] : NONE;
        }

        int kindAt(int i) {
            return kindOf(at(i));
        }

        /** Where the type that begins at a place ends. */
        int past(int from) {
            int due = 1;
            int i = from;
            while (due > 0 && i < length) {
                due += partsOf(at(i)) - 1;
                i++;
            }
            return i;
        }

        /** The ALL at the front goes, and a sign comes for its variable. */
        void open(int with) {
            int variable = sign(VARIABLE, numberOf(at(0)));
            for (int i = 1; i < length; i++) {
                signs[i - 1] = signs[i] == variable ? with : signs[i];
            }
            length = Math.max(0, length - 1);
        }

        boolean has(int sign) {
            for (int i = 0; i < length; i++) {
                if (signs[i] == sign) {
                    return true;
                }
            }
            return false;
        }

        int alls() {
            int found = 0;
            for (int i = 0; i < length; i++) {
                if (kindOf(signs[i]) == ALL) {
                    found++;
                }
            }
            return found;
        }

        boolean same(Row other) {
            if (length != other.length) {
                return false;
            }
            for (int i = 0; i < length; i++) {
                if (signs[i] != other.at(i)) {
                    return false;
                }
            }
            return true;
        }
    }

    /** The ordered row of entries; their types are kept one behind another, each behind its length. */
    private static final class Context {
        static final int CONSTANT = 0;
        static final int NAME = 1;
        static final int OPEN = 2;
        static final int SOLVED = 3;
        static final int MARK = 4;
        static final int MOST = 120;
        /** Twice what a type of 150 signs may bring in, with no step begun behind it, fits beside the 120. */
        private static final int ROOM = 480;
        /** Of two steps one at most keeps a long type, as none names, binds or solves one without another step; then splits, and the shelf. */
        private static final int TYPES_ROOM = (Judgement.MOST_STEPS / 2 + 12) * (Judgement.MOST_SIGNS + 4) + 8 * Shelf.SIGNS;
        private static final int TURNS = 1000000;

        final int[] kinds;
        final int[] numbers;
        final int[] types;
        /** What types are places of. */
        final Row kept;
        int size;
        int guesses;
        int constants;
        /** No room was left; a judgement that meets this is too long. */
        boolean full;
        private final int[] resumes;
        private final int[] stops;

        Context() {
            kinds = new int[ROOM];
            numbers = new int[ROOM];
            types = new int[ROOM];
            kept = new Row(TYPES_ROOM);
            resumes = new int[ROOM];
            stops = new int[ROOM];
            size = 0;
            guesses = 0;
            constants = 0;
            full = false;
        }

        void clear() {
            size = 0;
            guesses = 0;
            constants = 0;
            full = false;
            kept.clear();
        }

        int lengthOf(int i) {
            return i >= 0 && i < size ? kept.keptLength(types[i]) : 0;
        }

        private void put(int at, int kind, int number, int held) {
            if (size >= ROOM || at < 0 || at > size) {
                full = true;
                return;
            }
            for (int i = size; i > at; i--) {
                kinds[i] = kinds[i - 1];
                numbers[i] = numbers[i - 1];
                types[i] = types[i - 1];
            }
            kinds[at] = kind;
            numbers[at] = number;
            types[at] = held;
            size++;
        }

        int addConstant() {
            put(size, CONSTANT, constants, NONE);
            constants++;
            return constants - 1;
        }

        int addGuess() {
            put(size, OPEN, guesses, NONE);
            guesses++;
            return guesses - 1;
        }

        /** A mark has the number of the guess that is made next. */
        void addMark() {
            put(size, MARK, guesses, NONE);
        }

        void addName(int name, Row row, int from, int to) {
            put(size, NAME, name, kept.keep(row, from, to));
        }

        void addGuessedName(int name, int guess) {
            put(size, NAME, name, kept.keepSign(Row.sign(Row.GUESS, guess)));
        }

        /** The latest entry of a kind with a number. */
        private int placeOf(int kind, int number) {
            for (int i = size - 1; i >= 0; i--) {
                if (numbers[i] == number && kinds[i] == kind) {
                    return i;
                }
            }
            return NONE;
        }

        int openPlace(int guess) {
            return placeOf(OPEN, guess);
        }

        private boolean standsAhead(int sign, int place) {
            int kind = Row.kindOf(sign);
            if (kind != Row.GUESS && kind != Row.CONSTANT) {
                return true;
            }
            int at = placeOf(kind == Row.GUESS ? OPEN : CONSTANT, Row.numberOf(sign));
            return at != NONE && at < place;
        }

        /** Whether all guesses and constants of a type stand ahead of a place. */
        boolean allAhead(Row row, int place) {
            for (int i = 0; i < row.length; i++) {
                if (!standsAhead(row.signs[i], place)) {
                    return false;
                }
            }
            return true;
        }

        int nameType(int name) {
            int place = placeOf(NAME, name);
            return place == NONE ? NONE : types[place];
        }

        void cutAt(int kind, int number) {
            int place = placeOf(kind, number);
            if (place != NONE) {
                size = place;
            }
        }

        void removeName(int name) {
            int place = placeOf(NAME, name);
            if (place == NONE) {
                return;
            }
            size--;
            for (int i = place; i < size; i++) {
                kinds[i] = kinds[i + 1];
                numbers[i] = numbers[i + 1];
                types[i] = types[i + 1];
            }
        }

        void solve(int guess, Row row) {
            int place = openPlace(guess);
            if (place != NONE) {
                kinds[place] = SOLVED;
                types[place] = kept.keep(row, 0, row.length);
            }
        }

        void solveAs(int guess, int other) {
            int place = openPlace(guess);
            if (place != NONE) {
                kinds[place] = SOLVED;
                types[place] = kept.keepSign(Row.sign(Row.GUESS, other));
            }
        }

        /** An open guess becomes an arrow or a pair of two new ones: the number of the latter part (of the former one 1 more). */
        int split(int guess, int kind) {
            int place = openPlace(guess);
            int latter = guesses;
            guesses += 2;
            if (place == NONE) {
                return latter;
            }
            kinds[place] = SOLVED;
            types[place] = kept.length;
            kept.add(3);
            kept.add(kind);
            kept.add(Row.sign(Row.GUESS, latter + 1));
            kept.add(Row.sign(Row.GUESS, latter));
            put(place, OPEN, latter + 1, NONE);
            put(place, OPEN, latter, NONE);
            return latter;
        }

        private int solvedType(int sign) {
            if (Row.kindOf(sign) != Row.GUESS) {
                return NONE;
            }
            int place = placeOf(SOLVED, Row.numberOf(sign));
            return place == NONE ? NONE : types[place];
        }

        /** A type BY the context. Solved types have entries ahead of them alone in them, so this ends. */
        void take(int[] signs, int from, int to, Row into) {
            into.clear();
            int[] source = signs;
            int i = from;
            int stop = to;
            int depth = 0;
            for (int turn = 0; turn < TURNS && !into.over; turn++) {
                if (i >= stop) {
                    if (depth == 0) {
                        return;
                    }
                    depth--;
                    i = resumes[depth];
                    stop = stops[depth];
                    source = depth == 0 ? signs : kept.signs;
                    continue;
                }
                int sign = i >= 0 && i < source.length ? source[i] : NONE;
                i++;
                int solved = solvedType(sign);
                if (solved == NONE) {
                    into.add(sign);
                } else if (depth >= ROOM) {
                    into.over = true;
                } else {
                    resumes[depth] = i;
                    stops[depth] = stop;
                    depth++;
                    source = kept.signs;
                    i = solved + 1;
                    stop = i + kept.keptLength(solved);
                }
            }
            into.over = into.over || i < stop || depth > 0;
        }
    }

    /** What is still to be done, the next one on top, with the types that it needs. */
    private static final class Todo {
        private static final int WIDTH = 6;
        private static final int ITEMS = 5 * Judgement.MOST_STEPS;
        /** Far above twenty expressions within one another, each with what waits behind it. */
        private static final int TYPES_ROOM = 16000;

        int job;
        int depth;
        int node;
        int a;
        int b;
        boolean full;
        int size;
        /** The types that items need. */
        final Row held;
        private final int[] items;

        Todo() {
            items = new int[ITEMS * WIDTH];
            held = new Row(TYPES_ROOM);
            job = 0;
            depth = 0;
            node = NONE;
            a = NONE;
            b = NONE;
            size = 0;
            full = false;
        }

        void clear() {
            size = 0;
            full = false;
            held.clear();
        }

        /** What was held for the item, just ahead of this call, is let go when the one below it is on top. */
        void push(int itsJob, int itsDepth, int itsNode, int itsA, int itsB) {
            int at = size * WIDTH;
            if (at + WIDTH > items.length) {
                full = true;
                return;
            }
            items[at] = itsJob;
            items[at + 1] = itsDepth;
            items[at + 2] = itsNode;
            items[at + 3] = itsA;
            items[at + 4] = itsB;
            items[at + 5] = held.length;
            size++;
        }

        void pop() {
            if (size == 0) {
                return;
            }
            size--;
            int at = size * WIDTH;
            job = items[at];
            depth = items[at + 1];
            node = items[at + 2];
            a = items[at + 3];
            b = items[at + 4];
        }

        /** What the popped item held is no longer needed. */
        void letGo() {
            held.length = size == 0 ? 0 : items[size * WIDTH - 1];
        }
    }

    /** What a judgement found, each step of it, and the context at its end. */
    private static final class Judgement {
        static final int RIGHT = 0;
        static final int FAILS = 1;
        static final int TOO_LONG = 2;
        static final int GOING = 3;
        static final int MOST_STEPS = 300;
        static final int MOST_SIGNS = 150;
        static final int WIDTH = 6;

        final Context context;
        final int[] notes;
        /** The type that was found; without signs, if there is none. */
        final Row found;
        int verdict;
        int steps;
        int mostEntries;
        int failedAt;
        boolean ofTerm;
        boolean kept;

        Judgement() {
            context = new Context();
            notes = new int[MOST_STEPS * WIDTH];
            found = new Row(MOST_SIGNS);
            verdict = NONE;
            steps = 0;
            mostEntries = 0;
            failedAt = NONE;
            ofTerm = false;
            kept = false;
        }

        void start(boolean aTerm) {
            context.clear();
            found.clear();
            verdict = GOING;
            steps = 0;
            mostEntries = 0;
            failedAt = NONE;
            ofTerm = aTerm;
            kept = false;
        }

        boolean mayBeKept() {
            return ofTerm && verdict == RIGHT && !kept;
        }

        void note(int depth, int byteAt, int signs, int kind) {
            int at = steps * WIDTH;
            if (at + WIDTH > notes.length) {
                return;
            }
            notes[at] = 0;
            notes[at + 1] = context.size;
            notes[at + 2] = depth;
            notes[at + 3] = byteAt;
            notes[at + 4] = signs;
            notes[at + 5] = kind;
            mostEntries = Math.max(mostEntries, context.size);
            steps++;
        }

        void noteRule(int rule) {
            int at = (steps - 1) * WIDTH;
            if (at >= 0 && at < notes.length) {
                notes[at] = rule;
            }
        }
    }

    /** Takes the steps of a judgement, one item of the todo after another. */
    private static final class Judge {
        static final int LAST_RULE = 36;
        private static final int CHECK = 0;
        private static final int INFER = 1;
        private static final int APPLY = 2;
        private static final int BELOW = 3;
        private static final int LEFT = 4;
        private static final int RIGHT = 5;
        /* What goes on behind the steps of a rule; OUT: with the type that came out of the latest one. */
        private static final int CUT = 6;
        private static final int UNNAME = 7;
        private static final int OUT_BIND = 8;
        private static final int GIVE = 9;
        private static final int GIVE_ARROW = 10;
        private static final int OUT_BELOW = 11;
        private static final int OUT_APPLY = 12;
        private static final int OUT_ELSE = 13;
        private static final int OUT_SECOND = 14;
        private static final int OUT_PAIR = 15;
        private static final int OUT_PART = 16;
        private static final int TURNS = 100000;

        private final Todo todo;
        private final Row left;
        private final Row right;
        /** The type that came out of the latest INFER or APPLY. */
        private final Row out;
        private Judgement finding;
        private Context context;
        private Term term;
        private int limit;
        /** The depth of the steps within the one whose item is gone on with. */
        private int inner;
        private int begunAt;

        Judge(Judgement into, Term what) {
            todo = new Todo();
            left = new Row(Judgement.MOST_SIGNS);
            right = new Row(Judgement.MOST_SIGNS);
            out = new Row(Judgement.MOST_SIGNS);
            finding = into;
            context = into.context;
            term = what;
            limit = 0;
            inner = 0;
            begunAt = NONE;
        }

        private void start(Judgement into, boolean aTerm, int most) {
            into.start(aTerm);
            finding = into;
            context = into.context;
            limit = most;
            begunAt = NONE;
            todo.clear();
            left.clear();
            right.clear();
            out.clear();
        }

        /** A judgement of an expression, with the shelf ahead of all. */
        void startTerm(Judgement into, Term what, Shelf shelf, int most) {
            start(into, true, most);
            term = what;
            for (int i = 0; i < shelf.size; i++) {
                Row row = shelf.types[i];
                context.addName(shelf.names[i], row, 0, row.length);
            }
            todo.push(INFER, 0, term.root(), NONE, NONE);
        }

        /** A judgement of two types, in an empty context. */
        void startTypes(Judgement into, Row lower, Row upper) {
            start(into, false, Judgement.MOST_STEPS);
            left.put(lower.signs, 0, lower.length);
            right.put(upper.signs, 0, upper.length);
            pushBelow(0);
        }

        void run() {
            for (int turn = 0; turn < TURNS && finding.verdict == Judgement.GOING && todo.size > 0; turn++) {
                todo.pop();
                inner = todo.depth + 1;
                if (todo.job <= RIGHT) {
                    begin();
                } else {
                    goOn();
                }
                if (todo.full || todo.held.over || context.full || context.kept.over) {
                    finding.verdict = Judgement.TOO_LONG;
                }
            }
            if (finding.verdict == Judgement.GOING) {
                finish();
            }
        }

        private void finish() {
            if (finding.ofTerm) {
                context.take(out.signs, 0, out.length, finding.found);
                if (out.over || finding.found.over) {
                    finding.found.clear();
                    finding.verdict = Judgement.TOO_LONG;
                    return;
                }
            }
            finding.verdict = Judgement.RIGHT;
        }

        private void fail() {
            finding.verdict = Judgement.FAILS;
            finding.failedAt = begunAt;
        }

        private void begin() {
            if (finding.steps >= limit || context.size > Context.MOST || !takeTypes()) {
                finding.verdict = Judgement.TOO_LONG;
                return;
            }
            int byteAt = todo.job <= APPLY ? term.at(todo.node) : NONE;
            finding.note(todo.depth, byteAt, left.length + right.length, todo.job);
            if (todo.job <= INFER) {
                begunAt = byteAt;
            }
            int rule;
            switch (todo.job) {
                case CHECK: rule = check(todo.node); break;
                case INFER: rule = infer(todo.node); break;
                case APPLY: rule = apply(todo.node); break;
                case BELOW: rule = compareHeads(); break;
                default: rule = solve(todo.job, todo.b); break;
            }
            finding.noteRule(rule);
            if (rule == 0) {
                fail();
            }
        }

        /** The types of the step BY the context come into left and right; false: one is too long. */
        private boolean takeTypes() {
            left.clear();
            right.clear();
            if (todo.job != INFER) {
                takeHeld(todo.a, left);
            }
            if (todo.job == BELOW && !left.over) {
                takeHeld(todo.b, right);
            }
            todo.letGo();
            return !left.over && !right.over;
        }

        private void takeHeld(int at, Row into) {
            if (at == NONE) {
                into.over = true;
            } else {
                context.take(todo.held.signs, at + 1, at + 1 + todo.held.keptLength(at), into);
            }
        }

        /* ---- items to be done later: the one that is pushed last is the next ---- */

        private int hold(Row row) {
            return todo.held.keep(row, 0, row.length);
        }

        private void pushCheck(int node, int held) {
            todo.push(CHECK, inner, node, held, NONE);
        }

        private void pushInfer(int node) {
            todo.push(INFER, inner, node, NONE, NONE);
        }

        private void pushBelow(int depth) {
            int lower = hold(left);
            todo.push(BELOW, depth, NONE, lower, hold(right));
        }

        private void pushSolve(int job, int from, int to, int guess) {
            todo.push(job, inner, NONE, todo.held.keep(left, from, to), guess);
        }

        private void pushCut(int kind, int number) {
            todo.push(CUT, todo.depth, NONE, kind, number);
        }

        private void pushGoOn(int job, int node, int a) {
            todo.push(job, todo.depth, node, a, NONE);
        }

        /* ---- CHECK: left is the type ---- */

        private int check(int node) {
            int head = left.kindAt(0);
            if (head == Row.ALL) {
                return checkAll(node);
            }
            switch (term.op(node)) {
                case Term.FUNCTION: return head == Row.ARROW ? checkFunction(node) : checkInferred(node);
                case Term.PAIR: return head == Row.PAIR ? checkPair(node) : checkInferred(node);
                case Term.IF: return checkIf(node);
                case Term.LET: return checkLet(node);
                default: return checkInferred(node);
            }
        }

        private int checkAll(int node) {
            openConstant(left);
            pushCheck(node, hold(left));
            return 1;
        }

        private int checkFunction(int node) {
            int middle = left.past(1);
            context.addName(term.number(node), left, 1, middle);
            pushCut(Context.NAME, term.number(node));
            pushCheck(term.part(node, 0), todo.held.keep(left, middle, left.length));
            return 2;
        }

        private int checkPair(int node) {
            int middle = left.past(1);
            pushCheck(term.part(node, 1), todo.held.keep(left, middle, left.length));
            pushCheck(term.part(node, 0), todo.held.keep(left, 1, middle));
            return 3;
        }

        private int checkIf(int node) {
            pushCheck(term.part(node, 2), hold(left));
            pushCheck(term.part(node, 1), hold(left));
            pushCheck(term.part(node, 0), todo.held.keepSign(Row.TRUTHS));
            return 4;
        }

        private int checkLet(int node) {
            pushCut(Context.NAME, term.number(node));
            pushCheck(term.part(node, 1), hold(left));
            pushGoOn(OUT_BIND, node, NONE);
            pushInfer(term.part(node, 0));
            return 5;
        }

        private int checkInferred(int node) {
            pushGoOn(OUT_BELOW, node, hold(left));
            pushInfer(node);
            return 6;
        }

        /* ---- INFER ---- */

        private int infer(int node) {
            switch (term.op(node)) {
                case Term.NAME: return inferName(node);
                case Term.NUMBER: return inferSign(Row.NUMBERS);
                case Term.TRUTH: return inferSign(Row.TRUTHS);
                case Term.THING: return inferSign(Row.THING);
                case Term.NOTED: return inferNoted(node);
                case Term.FUNCTION: return inferFunction(node);
                case Term.CALL:
                    pushGoOn(OUT_APPLY, term.part(node, 1), NONE);
                    pushInfer(term.part(node, 0));
                    return 11;
                case Term.LET: return inferLet(node);
                case Term.IF:
                    pushGoOn(OUT_ELSE, term.part(node, 2), NONE);
                    pushInfer(term.part(node, 1));
                    pushCheck(term.part(node, 0), todo.held.keepSign(Row.TRUTHS));
                    return 13;
                case Term.PAIR:
                    pushGoOn(OUT_SECOND, term.part(node, 1), NONE);
                    pushInfer(term.part(node, 0));
                    return 14;
                case Term.FIRST:
                case Term.SECOND:
                    pushGoOn(OUT_PART, node, NONE);
                    pushInfer(term.part(node, 0));
                    return 15;
                case Term.SUM: return inferOfNumbers(node, Row.NUMBERS);
                case Term.LESS: return inferOfNumbers(node, Row.TRUTHS);
                default: return 0;
            }
        }

        private int inferName(int node) {
            int at = context.nameType(term.number(node));
            if (at == NONE) {
                return 0;
            }
            out.clear();
            out.put(context.kept.signs, at + 1, at + 1 + context.kept.keptLength(at));
            return 7;
        }

        private int inferSign(int sign) {
            out.clear();
            out.add(sign);
            return 8;
        }

        private int inferNoted(int node) {
            left.clear();
            term.putType(node, left);
            pushGoOn(GIVE, node, hold(left));
            pushCheck(term.part(node, 0), hold(left));
            return 9;
        }

        private int inferFunction(int node) {
            int from = context.addGuess();
            int to = context.addGuess();
            context.addGuessedName(term.number(node), from);
            pushGoOn(GIVE_ARROW, node, from);
            pushCut(Context.NAME, term.number(node));
            pushCheck(term.part(node, 0), todo.held.keepSign(Row.sign(Row.GUESS, to)));
            return 10;
        }

        private int inferLet(int node) {
            pushGoOn(UNNAME, node, NONE);
            pushInfer(term.part(node, 1));
            pushGoOn(OUT_BIND, node, NONE);
            pushInfer(term.part(node, 0));
            return 12;
        }

        private int inferOfNumbers(int node, int sign) {
            pushGoOn(GIVE, node, todo.held.keepSign(sign));
            pushCheck(term.part(node, 1), todo.held.keepSign(Row.NUMBERS));
            pushCheck(term.part(node, 0), todo.held.keepSign(Row.NUMBERS));
            return 16;
        }

        /* ---- APPLY: left is the type ---- */

        private int apply(int node) {
            int head = left.kindAt(0);
            if (head == Row.ALL) {
                left.open(Row.sign(Row.GUESS, context.addGuess()));
                todo.push(APPLY, inner, node, hold(left), NONE);
                return 17;
            }
            if (openGuess(left) != NONE) {
                int to = context.split(openGuess(left), Row.ARROW);
                pushGoOn(GIVE, node, todo.held.keepSign(Row.sign(Row.GUESS, to)));
                pushCheck(node, todo.held.keepSign(Row.sign(Row.GUESS, to + 1)));
                return 18;
            }
            if (head == Row.ARROW) {
                int middle = left.past(1);
                pushGoOn(GIVE, node, todo.held.keep(left, middle, left.length));
                pushCheck(node, todo.held.keep(left, 1, middle));
                return 19;
            }
            return 0;
        }

        /** The number of the open guess that a type is, or NONE. */
        private int openGuess(Row row) {
            if (row.kindAt(0) != Row.GUESS) {
                return NONE;
            }
            int guess = Row.numberOf(row.at(0));
            return context.openPlace(guess) == NONE ? NONE : guess;
        }

        /* ---- BELOW: left below right ---- */

        private int compareHeads() {
            if (right.kindAt(0) == Row.ALL) {
                openConstant(right);
                pushBelow(inner);
                return 20;
            }
            if (left.kindAt(0) == Row.ALL) {
                openMarked(left);
                pushBelow(inner);
                return 21;
            }
            if (left.length == 1 && right.length == 1 && left.at(0) == right.at(0)) {
                return 22;
            }
            int guess = openGuess(left);
            if (guess != NONE && !right.has(left.at(0))) {
                todo.push(LEFT, inner, NONE, hold(right), guess);
                return 23;
            }
            guess = openGuess(right);
            if (guess != NONE && !left.has(right.at(0))) {
                todo.push(RIGHT, inner, NONE, hold(left), guess);
                return 24;
            }
            return compareParts();
        }

        private int compareParts() {
            int head = left.kindAt(0);
            if (head != right.kindAt(0) || head != Row.ARROW && head != Row.PAIR) {
                return 0;
            }
            int middle = left.past(1);
            int otherMiddle = right.past(1);
            int lower = todo.held.keep(left, middle, left.length);
            todo.push(BELOW, inner, NONE, lower, todo.held.keep(right, otherMiddle, right.length));
            int mine = todo.held.keep(left, 1, middle);
            int others = todo.held.keep(right, 1, otherMiddle);
            if (head == Row.PAIR) {
                todo.push(BELOW, inner, NONE, mine, others);
                return 26;
            }
            todo.push(BELOW, inner, NONE, others, mine);
            return 25;
        }

        /* ---- LEFT and RIGHT: left is the type ---- */

        /** The same rules of both but for their numbers, for what stands on the other side of an arrow, and for an ALL. */
        private int solve(int job, int guess) {
            int place = context.openPlace(guess);
            if (place == NONE) {
                return 0;
            }
            int rule = job == LEFT ? 27 : 32;
            if (left.alls() == 0 && context.allAhead(left, place)) {
                context.solve(guess, left);
                return rule;
            }
            int other = openGuess(left);
            if (other != NONE && context.openPlace(other) > place) {
                context.solveAs(other, guess);
                return rule + 1;
            }
            switch (left.kindAt(0)) {
                case Row.ARROW:
                    solveParts(job, job == LEFT ? RIGHT : LEFT, context.split(guess, Row.ARROW));
                    return rule + 2;
                case Row.PAIR:
                    solveParts(job, job, context.split(guess, Row.PAIR));
                    return rule + 3;
                case Row.ALL:
                    solveAll(job, guess);
                    return rule + 4;
                default:
                    return 0;
            }
        }

        /** The former part with the guess that was made for it, then the latter one. */
        private void solveParts(int job, int formerJob, int latter) {
            int middle = left.past(1);
            pushSolve(job, middle, left.length, latter);
            pushSolve(formerJob, 1, middle, latter + 1);
        }

        private void solveAll(int job, int guess) {
            if (job == LEFT) {
                openConstant(left);
            } else {
                openMarked(left);
            }
            pushSolve(job, 0, left.length, guess);
        }

        /** A constant comes for the variable of an ALL, until what is pushed behind this is done. */
        private void openConstant(Row row) {
            int constant = context.addConstant();
            row.open(Row.sign(Row.CONSTANT, constant));
            pushCut(Context.CONSTANT, constant);
        }

        /** A guess behind a mark comes for it likewise. */
        private void openMarked(Row row) {
            context.addMark();
            int guess = context.addGuess();
            row.open(Row.sign(Row.GUESS, guess));
            pushCut(Context.MARK, guess);
        }

        /* ---- what goes on behind the steps of a rule ---- */

        private void goOn() {
            switch (todo.job) {
                case CUT: context.cutAt(todo.a, todo.b); break;
                case UNNAME: context.removeName(term.number(todo.node)); break;
                case OUT_BIND: bind(term.number(todo.node)); break;
                case GIVE: give(todo.a); break;
                case GIVE_ARROW: giveArrow(todo.a); break;
                case OUT_BELOW: outBelow(todo.a); break;
                case OUT_APPLY:
                    todo.push(APPLY, inner, todo.node, hold(out), NONE);
                    break;
                case OUT_ELSE: outElse(todo.node); break;
                case OUT_SECOND: outSecond(todo.node); break;
                case OUT_PAIR: outPair(todo.a); break;
                default: outPart(term.op(todo.node) == Term.FIRST); break;
            }
        }

        /** What came out BY the context comes into left; false, and the end: it is too long. */
        private boolean takeOut() {
            context.take(out.signs, 0, out.length, left);
            if (out.over || left.over) {
                finding.verdict = Judgement.TOO_LONG;
                return false;
            }
            return true;
        }

        private void bind(int name) {
            if (takeOut()) {
                context.addName(name, left, 0, left.length);
            }
        }

        private void give(int at) {
            out.clear();
            putHeld(at, out);
            todo.letGo();
        }

        private void putHeld(int at, Row into) {
            if (at == NONE) {
                into.over = true;
            } else {
                into.put(todo.held.signs, at + 1, at + 1 + todo.held.keptLength(at));
            }
        }

        private void giveArrow(int from) {
            out.clear();
            out.add(Row.ARROW);
            out.add(Row.sign(Row.GUESS, from));
            out.add(Row.sign(Row.GUESS, from + 1));
        }

        private void outBelow(int at) {
            right.clear();
            putHeld(at, right);
            todo.letGo();
            int lower = hold(out);
            todo.push(BELOW, inner, NONE, lower, hold(right));
        }

        private void outElse(int node) {
            pushGoOn(GIVE, node, hold(out));
            pushCheck(node, hold(out));
        }

        private void outSecond(int node) {
            pushGoOn(OUT_PAIR, node, hold(out));
            pushInfer(node);
        }

        private void outPair(int first) {
            left.clear();
            left.add(Row.PAIR);
            putHeld(first, left);
            todo.letGo();
            left.put(out.signs, 0, out.length);
            left.over = left.over || out.over;
            out.clear();
            out.put(left.signs, 0, left.length);
            out.over = left.over;
        }

        private void outPart(boolean first) {
            if (!takeOut()) {
                return;
            }
            for (int i = 0; i < Judgement.MOST_SIGNS && left.kindAt(0) == Row.ALL; i++) {
                left.open(Row.sign(Row.GUESS, context.addGuess()));
            }
            int guess = openGuess(left);
            out.clear();
            if (left.kindAt(0) == Row.PAIR) {
                int middle = left.past(1);
                out.put(left.signs, first ? 1 : middle, first ? middle : left.length);
            } else if (guess != NONE) {
                int second = context.split(guess, Row.PAIR);
                out.add(Row.sign(Row.GUESS, first ? second + 1 : second));
            } else {
                fail();
            }
        }
    }

    /** An expression: its parts in the order of their bytes, the whole ahead of all. */
    private static final class Term {
        static final int NAME = 0;
        static final int NUMBER = 1;
        static final int TRUTH = 2;
        static final int THING = 3;
        static final int FUNCTION = 4;
        static final int CALL = 5;
        static final int NOTED = 6;
        static final int LET = 7;
        static final int IF = 8;
        static final int PAIR = 9;
        static final int FIRST = 10;
        static final int SECOND = 11;
        static final int SUM = 12;
        static final int LESS = 13;

        int size;
        final Row types;
        private final int[] ops;
        private final int[] numbers;
        private final int[] ats;
        /** For each node the first one behind all that is within it. */
        private final int[] pasts;
        private final int[] typesAt;
        /** The node that is taken as if it were NOTED with the asked type, or NONE. */
        private int wrapped;
        private Row asked;

        Term() {
            ops = new int[Reader.ROOM];
            numbers = new int[Reader.ROOM];
            ats = new int[Reader.ROOM];
            pasts = new int[Reader.ROOM];
            typesAt = new int[Reader.ROOM];
            types = new Row(Reader.ROOM);
            size = 0;
            wrapped = NONE;
            asked = null;
        }

        static int partsOf(int op) {
            switch (op) {
                case FUNCTION: case NOTED: case FIRST: case SECOND: return 1;
                case CALL: case LET: case PAIR: case SUM: case LESS: return 2;
                case IF: return 3;
                default: return 0;
            }
        }

        void clear() {
            size = 0;
            types.clear();
            unwrap();
        }

        int add(int op, int at) {
            if (size >= ops.length) {
                return NONE;
            }
            ops[size] = op;
            numbers[size] = 0;
            ats[size] = at;
            pasts[size] = size + 1;
            typesAt[size] = NONE;
            size++;
            return size - 1;
        }

        private boolean has(int node) {
            return node >= 0 && node < size;
        }

        void setNumber(int node, int number) {
            if (has(node)) {
                numbers[node] = number;
            }
        }

        /** All that was added behind a node is within it. */
        void close(int node) {
            if (has(node)) {
                pasts[node] = size;
            }
        }

        void beginType(int node) {
            if (has(node)) {
                typesAt[node] = types.length;
            }
        }

        void wrap(int node, Row with) {
            wrapped = node;
            asked = with;
        }

        void unwrap() {
            wrapped = NONE;
            asked = null;
        }

        /** The node that stands in the place of another one: one behind all others, if that is wrapped. */
        private int standsFor(int node) {
            return wrapped != NONE && node == wrapped ? size : node;
        }

        private boolean isWrapping(int node) {
            return wrapped != NONE && node == size;
        }

        int root() {
            return standsFor(0);
        }

        int part(int node, int which) {
            if (isWrapping(node)) {
                return wrapped;
            }
            int part = node + 1;
            for (int i = 0; i < which && has(part); i++) {
                part = pasts[part];
            }
            return standsFor(part);
        }

        int op(int node) {
            if (isWrapping(node)) {
                return NOTED;
            }
            return has(node) ? ops[node] : NONE;
        }

        int number(int node) {
            return has(node) ? numbers[node] : 0;
        }

        int at(int node) {
            int real = isWrapping(node) ? wrapped : node;
            return has(real) ? ats[real] : NONE;
        }

        void putType(int node, Row into) {
            if (isWrapping(node)) {
                if (asked != null) {
                    into.put(asked.signs, 0, asked.length);
                }
            } else if (has(node)) {
                into.put(types.signs, typesAt[node], types.past(typesAt[node]));
            }
        }

        void copy(Term other) {
            clear();
            size = other.size;
            System.arraycopy(other.ops, 0, ops, 0, size);
            System.arraycopy(other.numbers, 0, numbers, 0, size);
            System.arraycopy(other.ats, 0, ats, 0, size);
            System.arraycopy(other.pasts, 0, pasts, 0, size);
            System.arraycopy(other.typesAt, 0, typesAt, 0, size);
            types.put(other.types.signs, 0, other.types.length);
        }
    }

    /** The tape, and the reading of it. */
    private static final class Reader {
        static final int ROOM = 300;
        private static final int DEEPEST = 20;
        private static final int LETTERS = 26;

        int length;
        final Row first;
        final Row second;
        private final int[] tape;
        /** For each letter the number of the ALL that it stands in, or NONE. */
        private final int[] bound;
        private int at;
        private int faultAt;
        private int allsRead;
        private Term term;
        private Row goal;

        Reader(Term into) {
            tape = new int[ROOM];
            bound = new int[LETTERS];
            first = new Row(ROOM);
            second = new Row(ROOM);
            length = 0;
            at = 0;
            faultAt = NONE;
            allsRead = 0;
            term = into;
            goal = first;
        }

        static int bytesIn(int word) {
            int found = 0;
            for (int shift = 24; shift >= 0; shift -= 8) {
                if ((word >> shift & 255) != 0) {
                    found++;
                }
            }
            return found;
        }

        void put(int word) {
            for (int shift = 24; shift >= 0; shift -= 8) {
                int one = word >> shift & 255;
                if (one != 0 && length < ROOM) {
                    tape[length] = one;
                    length++;
                }
            }
        }

        /** The fault of the tape as an expression; without one, that is the term then. */
        int readTerm(Term into) {
            at = 0;
            faultAt = NONE;
            into.clear();
            term = into;
            goal = into.types;
            readPart(1);
            readEnd();
            return faultAt;
        }

        /** The fault of the tape as one or two types; without one, these are first and second then. */
        int readTypes(int many) {
            at = 0;
            faultAt = NONE;
            first.clear();
            second.clear();
            goal = first;
            readType(1);
            if (many == 2) {
                goal = second;
                readType(1);
            }
            readEnd();
            return faultAt;
        }

        private int here() {
            return at < length && at < ROOM ? tape[at] : NONE;
        }

        private int nextSign() {
            while (at < length && at < ROOM && tape[at] == ' ') {
                at++;
            }
            return at < length && at < ROOM ? tape[at] : NONE;
        }

        private void refuse() {
            if (faultAt == NONE) {
                faultAt = at;
            }
        }

        private void readEnd() {
            if (faultAt == NONE && nextSign() != NONE) {
                refuse();
            }
        }

        private static boolean isDigit(int sign) {
            return sign >= '0' && sign <= '9';
        }

        private static boolean isLetter(int sign) {
            return sign >= 'a' && sign <= 'z';
        }

        private static int opOf(int sign) {
            switch (sign) {
                case 'T': case 'U': return Term.TRUTH;
                case '*': return Term.THING;
                case '/': return Term.FUNCTION;
                case '@': return Term.CALL;
                case ':': return Term.NOTED;
                case '&': return Term.LET;
                case '?': return Term.IF;
                case ',': return Term.PAIR;
                case '[': return Term.FIRST;
                case ']': return Term.SECOND;
                case '+': return Term.SUM;
                case '<': return Term.LESS;
                default: break;
            }
            if (isDigit(sign)) {
                return Term.NUMBER;
            }
            return isLetter(sign) ? Term.NAME : NONE;
        }

        /** Reads an expression that is within depth - 1 others. */
        private void readPart(int depth) {
            int sign = nextSign();
            int op = opOf(sign);
            if (op == NONE || depth > DEEPEST) {
                refuse();
                return;
            }
            int node = term.add(op, at);
            readHead(node, op, sign);
            for (int i = 0; i < Term.partsOf(op) && faultAt == NONE; i++) {
                readPart(depth + 1);
            }
            term.close(node);
            if (op == Term.NOTED && faultAt == NONE) {
                term.beginType(node);
                readType(depth + 1);
            }
        }

        private void readHead(int node, int op, int sign) {
            if (op == Term.NUMBER) {
                term.setNumber(node, readNumber());
                return;
            }
            at++;
            if (op == Term.NAME) {
                term.setNumber(node, sign - 'a');
            } else if (op == Term.TRUTH) {
                term.setNumber(node, sign == 'T' ? 1 : 0);
            } else if (op == Term.FUNCTION || op == Term.LET) {
                term.setNumber(node, readLetter());
            }
        }

        private int readNumber() {
            int number = 0;
            for (int i = 0; i < 2 && isDigit(here()); i++) {
                number = number * 10 + here() - '0';
                at++;
            }
            if (isDigit(here())) {
                refuse();
            }
            return number;
        }

        private int readLetter() {
            int sign = nextSign();
            if (!isLetter(sign)) {
                refuse();
                return 0;
            }
            at++;
            return sign - 'a';
        }

        private void readType(int depth) {
            for (int i = 0; i < LETTERS; i++) {
                bound[i] = NONE;
            }
            allsRead = 0;
            readTypePart(depth);
        }

        private void readTypePart(int depth) {
            if (faultAt != NONE) {
                return;
            }
            int sign = nextSign();
            if (depth > DEEPEST) {
                refuse();
                return;
            }
            switch (sign) {
                case 'N': readLeaf(Row.NUMBERS); break;
                case 'B': readLeaf(Row.TRUTHS); break;
                case 'O': readLeaf(Row.THING); break;
                case '>': readTwo(Row.ARROW, depth); break;
                case ',': readTwo(Row.PAIR, depth); break;
                case '!': readAll(depth); break;
                default: readVariable(sign); break;
            }
        }

        private void readLeaf(int sign) {
            goal.add(sign);
            at++;
        }

        private void readTwo(int sign, int depth) {
            readLeaf(sign);
            readTypePart(depth + 1);
            readTypePart(depth + 1);
        }

        private void readVariable(int sign) {
            if (isLetter(sign) && bound[sign - 'a'] != NONE) {
                readLeaf(Row.sign(Row.VARIABLE, bound[sign - 'a']));
            } else {
                refuse();
            }
        }

        private void readAll(int depth) {
            at++;
            int letter = readLetter();
            if (faultAt != NONE) {
                return;
            }
            int outer = bound[letter];
            bound[letter] = allsRead;
            goal.add(Row.sign(Row.ALL, allsRead));
            allsRead++;
            readTypePart(depth + 1);
            bound[letter] = outer;
        }
    }

    /** Names with expressions that were right, and their types. */
    private static final class Shelf {
        /** A type that was found, and an ALL for each of its guesses. */
        static final int SIGNS = 2 * Judgement.MOST_SIGNS;
        private static final int MOST = 8;
        private static final int NAMES = 26;

        int size;
        final int[] names;
        final int[] opened;
        final Row[] types;
        final Term[] terms;

        Shelf() {
            names = new int[MOST];
            opened = new int[MOST];
            types = new Row[MOST];
            terms = new Term[MOST];
            for (int i = 0; i < MOST; i++) {
                types[i] = new Row(SIGNS);
                terms[i] = new Term();
            }
            size = 0;
        }

        boolean has(int i) {
            return i >= 0 && i < size;
        }

        int placeOf(int name) {
            for (int i = 0; i < size; i++) {
                if (names[i] == name) {
                    return i;
                }
            }
            return NONE;
        }

        boolean takes(int name) {
            return size < MOST && name >= 0 && name < NAMES && placeOf(name) == NONE;
        }

        /** Puts a name there is room for onto the shelf: the row that its type must come into. */
        Row put(int name, Term term, int guesses) {
            int at = Math.min(size, MOST - 1);
            names[at] = name;
            opened[at] = guesses;
            terms[at].copy(term);
            types[at].clear();
            size = at + 1;
            return types[at];
        }
    }

    /** The values of a working out, and what names are in it; all are there until the next one. */
    private static final class Values {
        static final int NUMBER = 0;
        static final int TRUTH = 1;
        static final int THING = 2;
        static final int PAIR = 3;
        static final int FUNCTION = 4;
        private static final int MOST_COUNTED = 1000000;
        /** Each pace makes one value and one name's value at most. */
        private static final int ROOM = Worker.MOST_PACES + 2;

        private final int[] kinds;
        /** A number, a truth; of a pair its first, of a function its node. */
        private final int[] firsts;
        /** Of a pair its second; of a function what its names are. */
        private final int[] seconds;
        /** Of a function the expression that it is in. */
        private final int[] homes;
        private final int[] counted;
        private int size;
        private final int[] names;
        private final int[] named;
        /** For each name the one that was there ahead of it. */
        private final int[] olders;
        private int binds;

        Values() {
            kinds = new int[ROOM];
            firsts = new int[ROOM];
            seconds = new int[ROOM];
            homes = new int[ROOM];
            counted = new int[ROOM];
            names = new int[ROOM];
            named = new int[ROOM];
            olders = new int[ROOM];
            size = 0;
            binds = 0;
        }

        void clear() {
            size = 0;
            binds = 0;
        }

        private boolean has(int value) {
            return value >= 0 && value < size;
        }

        private int make(int kind, int first, int second, int home) {
            int at = Math.min(size, ROOM - 1);
            kinds[at] = kind;
            firsts[at] = first;
            seconds[at] = second;
            homes[at] = home;
            counted[at] = 1;
            size = at + 1;
            return at;
        }

        int makePlain(int kind, int number) {
            return make(kind, number, NONE, NONE);
        }

        int makeFunction(int node, int scope, int home) {
            return make(FUNCTION, node, scope, home);
        }

        int makePair(int first, int second) {
            int within = countOf(first) + countOf(second);
            int at = make(PAIR, first, second, NONE);
            counted[at] = Math.min(MOST_COUNTED, 1 + within);
            return at;
        }

        int kindOf(int value) {
            return has(value) ? kinds[value] : NONE;
        }

        int firstOf(int value) {
            return has(value) ? firsts[value] : 0;
        }

        int secondOf(int value) {
            return has(value) ? seconds[value] : NONE;
        }

        int homeOf(int value) {
            return has(value) ? homes[value] : NONE;
        }

        int countOf(int value) {
            return has(value) ? counted[value] : 0;
        }

        /** The names of a scope and one more. */
        int bind(int name, int value, int scope) {
            int at = Math.min(binds, ROOM - 1);
            names[at] = name;
            named[at] = value;
            olders[at] = scope;
            binds = at + 1;
            return at;
        }

        int find(int name, int scope) {
            int at = scope;
            for (int i = 0; i < ROOM && at >= 0 && at < binds; i++) {
                if (names[at] == name) {
                    return named[at];
                }
                at = olders[at];
            }
            return NONE;
        }
    }

    /** Works an expression out, pace by pace, with a row of what waits for the value of a part. */
    private static final class Worker {
        static final int MOST_PACES = 400;
        private static final int VALUE = 0;
        private static final int TIRED = 1;
        private static final int STUCK = 2;
        private static final int GOING = 3;
        private static final int WIDTH = 5;
        private static final int TURNS = 100000;
        /** The home of what is in the latest expression; those of the shelf have their places. */
        private static final int LATEST = -1;
        /* What an expression waits for: its first part's value, or (with that) its second's. */
        private static final int HEAD = 0;
        private static final int TAIL = 1;

        int how;
        int paces;
        private final Values values;
        private final int[] waits;
        private int waiting;
        private Term latest;
        private Shelf shelf;
        /** What is worked out next; NONE: there is an answer for what waits. */
        private int node;
        private int home;
        private int scope;
        private int answer;

        Worker(Term term, Shelf from) {
            values = new Values();
            waits = new int[(MOST_PACES + 2) * WIDTH];
            how = GOING;
            paces = 0;
            waiting = 0;
            latest = term;
            shelf = from;
            node = NONE;
            home = LATEST;
            scope = NONE;
            answer = NONE;
        }

        void workOut(Term term, Shelf from) {
            latest = term;
            shelf = from;
            values.clear();
            waiting = 0;
            paces = 0;
            how = GOING;
            answer = NONE;
            goTo(term.root(), LATEST, NONE);
            for (int turn = 0; turn < TURNS && how == GOING; turn++) {
                if (node != NONE) {
                    pace();
                } else if (waiting > 0) {
                    resume();
                } else {
                    how = VALUE;
                }
            }
        }

        int answerKind() {
            return how == VALUE ? values.kindOf(answer) : NONE;
        }

        int answerNumber() {
            if (how != VALUE) {
                return 0;
            }
            int kind = values.kindOf(answer);
            return kind == Values.NUMBER || kind == Values.TRUTH ? values.firstOf(answer) : values.countOf(answer);
        }

        private Term termAt(int place) {
            return shelf.has(place) ? shelf.terms[place] : latest;
        }

        private void goTo(int nextNode, int nextHome, int nextScope) {
            node = nextNode;
            home = nextHome;
            scope = nextScope;
        }

        private void give(int value) {
            answer = value;
            node = NONE;
        }

        private void await(int stage, int value) {
            int at = waiting * WIDTH;
            if (at + WIDTH > waits.length) {
                how = TIRED;
                return;
            }
            waits[at] = stage;
            waits[at + 1] = node;
            waits[at + 2] = home;
            waits[at + 3] = scope;
            waits[at + 4] = value;
            waiting++;
        }

        private void pace() {
            if (paces >= MOST_PACES) {
                how = TIRED;
                return;
            }
            paces++;
            Term term = termAt(home);
            switch (term.op(node)) {
                case Term.NAME: workName(term.number(node)); break;
                case Term.NUMBER: give(values.makePlain(Values.NUMBER, term.number(node))); break;
                case Term.TRUTH: give(values.makePlain(Values.TRUTH, term.number(node))); break;
                case Term.THING: give(values.makePlain(Values.THING, 0)); break;
                case Term.FUNCTION: give(values.makeFunction(node, scope, home)); break;
                case Term.NOTED: node = term.part(node, 0); break;
                default:
                    await(HEAD, NONE);
                    node = term.part(node, 0);
                    break;
            }
        }

        private void workName(int name) {
            int value = values.find(name, scope);
            int place = shelf.placeOf(name);
            if (value != NONE) {
                give(value);
            } else if (place != NONE) {
                goTo(shelf.terms[place].root(), place, NONE);
            } else {
                how = STUCK;
            }
        }

        private void resume() {
            waiting--;
            int at = waiting * WIDTH;
            goTo(waits[at + 1], waits[at + 2], waits[at + 3]);
            Term term = termAt(home);
            if (waits[at] == HEAD) {
                goOnWithFirst(term, term.op(node));
            } else {
                goOnWithBoth(term.op(node), waits[at + 4]);
            }
        }

        /** Whether the answer is of the kind that must be there; if not, all is stuck. */
        private boolean must(int kind) {
            if (values.kindOf(answer) != kind) {
                how = STUCK;
            }
            return how == GOING;
        }

        private void goOnWithFirst(Term term, int op) {
            switch (op) {
                case Term.LET:
                    goTo(term.part(node, 1), home, values.bind(term.number(node), answer, scope));
                    break;
                case Term.IF:
                    if (must(Values.TRUTH)) {
                        node = term.part(node, values.firstOf(answer) == 1 ? 1 : 2);
                    }
                    break;
                case Term.FIRST:
                    if (must(Values.PAIR)) {
                        give(values.firstOf(answer));
                    }
                    break;
                case Term.SECOND:
                    if (must(Values.PAIR)) {
                        give(values.secondOf(answer));
                    }
                    break;
                default:
                    if (op == Term.PAIR || must(op == Term.CALL ? Values.FUNCTION : Values.NUMBER)) {
                        await(TAIL, answer);
                        node = term.part(node, 1);
                    }
                    break;
            }
        }

        private void goOnWithBoth(int op, int first) {
            if (op == Term.CALL) {
                workFunction(first);
            } else if (op == Term.PAIR) {
                give(values.makePair(first, answer));
            } else if (must(Values.NUMBER)) {
                int one = values.firstOf(first);
                int other = values.firstOf(answer);
                if (op == Term.SUM) {
                    give(values.makePlain(Values.NUMBER, one + other));
                } else {
                    give(values.makePlain(Values.TRUTH, one < other ? 1 : 0));
                }
            }
        }

        private void workFunction(int function) {
            int its = values.homeOf(function);
            int itsNode = values.firstOf(function);
            Term term = termAt(its);
            int names = values.bind(term.number(itsNode), answer, values.secondOf(function));
            goTo(term.part(itsNode, 0), its, names);
        }
    }

    /** Tells types as texts, and what there is to be counted in them. */
    private static final class Teller {
        private static final int ROOM = 2 * Shelf.SIGNS;
        private static final int LETTERS = 26;
        private static final int DIGITS = 10;

        private final int[] text;
        private int length;
        /** For each number of an ALL what its variable is now. */
        private final int[] variables;
        private final int[] seen;
        private final int[] ranks;

        Teller() {
            text = new int[ROOM];
            variables = new int[ROOM];
            seen = new int[ROOM];
            ranks = new int[ROOM];
            length = 0;
        }

        /** The k-th sign of the text of a type; how many there are, if k is NONE. */
        int told(int[] signs, int from, int to, int k) {
            length = 0;
            int alls = 0;
            int many = 0;
            for (int i = from; i < to && i >= 0 && i < signs.length; i++) {
                int kind = Row.kindOf(signs[i]);
                if (kind == Row.ALL) {
                    name(signs[i], 'a' + alls % LETTERS);
                    alls++;
                    write('!');
                    write(nameOf(signs[i]));
                } else if (kind == Row.GUESS || kind == Row.CONSTANT) {
                    many = see(signs[i], many);
                    write(kind == Row.GUESS ? '^' : '#');
                    write('0' + orderOf(signs[i], many) % DIGITS);
                } else {
                    write(kind == Row.VARIABLE ? nameOf(signs[i]) : plain(kind));
                }
            }
            if (k == NONE) {
                return length;
            }
            return k >= 0 && k < length ? text[k] : NONE;
        }

        private void write(int sign) {
            if (length < ROOM) {
                text[length] = sign;
                length++;
            }
        }

        private static int plain(int kind) {
            switch (kind) {
                case Row.NUMBERS: return 'N';
                case Row.TRUTHS: return 'B';
                case Row.THING: return 'O';
                case Row.ARROW: return '>';
                default: return ',';
            }
        }

        private void name(int sign, int as) {
            int number = Row.numberOf(sign);
            if (number >= 0 && number < ROOM) {
                variables[number] = as;
            }
        }

        private int nameOf(int sign) {
            int number = Row.numberOf(sign);
            return number >= 0 && number < ROOM ? variables[number] : 0;
        }

        /** Notes a sign, if it is new: how many are noted then. */
        private int see(int sign, int many) {
            for (int i = 0; i < many; i++) {
                if (seen[i] == sign) {
                    return many;
                }
            }
            if (many < ROOM) {
                seen[many] = sign;
                return many + 1;
            }
            return many;
        }

        /** How many of its kind were noted ahead of a sign. */
        private int orderOf(int sign, int many) {
            int order = 0;
            for (int i = 0; i < many && seen[i] != sign; i++) {
                if (Row.kindOf(seen[i]) == Row.kindOf(sign)) {
                    order++;
                }
            }
            return order;
        }

        int guessesIn(Row row) {
            int many = 0;
            for (int i = 0; i < row.length; i++) {
                if (Row.kindOf(row.signs[i]) == Row.GUESS) {
                    many = see(row.signs[i], many);
                }
            }
            return many;
        }

        /** The type with an ALL for each of its guesses comes into a row. */
        void close(Row row, Row into) {
            int guesses = guessesIn(row);
            into.clear();
            for (int i = 0; i < guesses; i++) {
                into.add(Row.sign(Row.ALL, i));
            }
            int alls = guesses;
            for (int i = 0; i < row.length; i++) {
                int sign = row.signs[i];
                int kind = Row.kindOf(sign);
                if (kind == Row.GUESS) {
                    into.add(Row.sign(Row.VARIABLE, orderOf(sign, guesses)));
                } else if (kind == Row.ALL) {
                    name(sign, alls);
                    into.add(Row.sign(Row.ALL, alls));
                    alls++;
                } else {
                    into.add(kind == Row.VARIABLE ? Row.sign(Row.VARIABLE, nameOf(sign)) : sign);
                }
            }
        }

        /** From the right on: the ranks of what is not yet part of another one, the leftmost on top. */
        int rank(int[] signs, int from, int to) {
            int top = 0;
            for (int i = to - 1; i >= from && i >= 0; i--) {
                int sign = i < signs.length ? signs[i] : NONE;
                int parts = Row.partsOf(sign);
                int mine = 0;
                if (parts == 1 && top > 0) {
                    top--;
                    mine = Math.max(1, ranks[top]);
                } else if (parts == 2 && top > 1) {
                    top -= 2;
                    int former = ranks[top + 1];
                    if (Row.kindOf(sign) == Row.ARROW && former > 0) {
                        former++;
                    }
                    mine = Math.max(former, ranks[top]);
                }
                if (top < ROOM) {
                    ranks[top] = mine;
                    top++;
                }
            }
            return top > 0 ? ranks[0] : 0;
        }
    }
}
