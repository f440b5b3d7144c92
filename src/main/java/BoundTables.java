import java.util.Arrays;

/**
 * Tables of classes with parameters, bounds and unknown arguments, read from texts, and questions
 * about them. README.md tells how it is used; the document tells what each call answers.
 *
 * <p>A TYPE is held in one of two forms. As told, it is a row of heads, a TYPE's own head before
 * those of its ARGS: how many ARGS follow is known from the head. In a question it is a node that
 * shares its parts with others, because TYPES put in others' place can double with every step.
 */
public final class BoundTables {

    public static final int NONE = -1;
    public static final int DEEP = -2, FUEL = -3, FULL = -4;

    private static final int TAPE_BYTES = 800;
    private static final int NAME_BYTES = 8;
    private static final int PAGE_BYTES = 1000;
    private static final int MOST_CLASSES = 21;
    private static final int MOST_PARAMETERS = 4;
    private static final int ALL_PARAMETERS = 80;
    private static final int MOST_BOUNDS = 2;
    private static final int MOST_SUPERS = 4;
    private static final int TEXT_NODES = 300;
    private static final int ABOVE_NODES = 200;
    private static final int MOST_AROUND = 8;
    private static final int MOST_FUEL = 3000;
    private static final int MOST_DEPTH = 40;
    private static final int MOST_NEW = 300;
    private static final int NEW_BOUNDS = MOST_BOUNDS + 1;
    private static final int MOST_TOGETHER = 6000;

    /** The question's nodes, those of its PARAMETERS and their BOUNDS, NEW ones, all put together. */
    private static final int MOST_NODES = 7000;

    /** Heads: a class is its number; the others begin at these. */
    private static final int PARAMETER_HEAD = 32;
    private static final int WILD = 200, WILD_UP = 201, WILD_DOWN = 202;
    private static final int NEW_HEAD = 300;

    private static final int ANY = 0;
    private static final long ANY_NAME = 0x416E79L;

    private static final int BYTE_FAULT = 1, TOKEN_FAULT = 2, TWICE_FAULT = 3, MEANING_FAULT = 4;
    private static final int COUNT_FAULT = 5, LIMIT_FAULT = 6, PLACE_FAULT = 7, ABOVE_FAULT = 8;

    private final Tape tape = new Tape();
    private final Ways ways = new Ways();
    private final Page page = new Page();
    private Table table = new Table();
    private Table spare = new Table();
    private final Reader reader = new Reader(tape, table);
    private final Asker asker = new Asker(table);
    private int latestFault;

    public BoundTables() {
        asker.startOver(table, NONE);
    }

    public int feed(long bytes, int n) throws IllegalArgumentException, UnsupportedOperationException {
        if (n < 1 || n > 8) {
            throw new IllegalArgumentException("a number has 1 to 8 bytes");
        }
        if (tape.length + n > TAPE_BYTES) {
            throw new UnsupportedOperationException("the tape has at most 800 bytes");
        }
        tape.append(bytes, n);
        return tape.length;
    }

    public int read() {
        boolean right = reader.readTable(spare);
        latestFault = reader.found;
        if (!right) {
            return -10 - reader.foundAt;
        }
        Table old = table;
        table = spare;
        spare = old;
        ways.measure(table);
        asker.startOver(table, NONE);
        return table.classes;
    }

    public int fault() {
        return latestFault;
    }

    public long cls(int k, int what) throws IndexOutOfBoundsException, IllegalArgumentException {
        if (k < 0 || k >= table.classes) {
            throw new IndexOutOfBoundsException("no such class");
        }
        switch (what) {
            case 0:
                return table.arity(k);
            case 1:
                return at(table.superCount, k);
            case 2:
                return table.countOver(k);
            case 3:
                return nameAt(table.className, k);
            case 4:
                return table.arity(k) > 0 ? at(table.firstParameter, k) : NONE;
            default:
                throw new IllegalArgumentException("what is 0 to 4");
        }
    }

    public int isAbove(int k, int above) throws IndexOutOfBoundsException {
        if (k < 0 || k >= table.classes || above < 0 || above >= table.classes) {
            throw new IndexOutOfBoundsException("no such class");
        }
        return table.overLength(k, above) > 0 ? 1 : 0;
    }

    public long parameter(int p, int what) throws IndexOutOfBoundsException, IllegalArgumentException {
        if (p < 0 || p >= table.parameters) {
            throw new IndexOutOfBoundsException("no such parameter");
        }
        switch (what) {
            case 0:
                return at(table.parameterClass, p);
            case 1:
                return at(table.boundCount, p);
            case 2:
                return nameAt(table.parameterName, p);
            case 3:
                return at(ways.onRound, p);
            default:
                throw new IllegalArgumentException("what is 0 to 3");
        }
    }

    public int way(int p, int q) throws IndexOutOfBoundsException {
        if (p < 0 || p >= table.parameters || q < 0 || q >= table.parameters) {
            throw new IndexOutOfBoundsException("no such parameter");
        }
        return at(ways.sort, p * ALL_PARAMETERS + q);
    }

    public int ask(int fuel) throws IllegalArgumentException {
        if (fuel < 0 || fuel > MOST_FUEL) {
            throw new IllegalArgumentException("fuel is 0 to 3000");
        }
        boolean right = reader.readQuestion(table);
        latestFault = reader.found;
        if (!right) {
            return -10 - reader.foundAt;
        }
        asker.startOver(table, reader.owner);
        int s = asker.nodeOf(reader.told, 0, reader.second);
        int t = asker.nodeOf(reader.told, reader.second, reader.toldLength - reader.second);
        asker.fuel = fuel;
        return asker.below(s, t, 1);
    }

    public int told(int what) throws IllegalArgumentException {
        switch (what) {
            case 0:
                return asker.asked;
            case 1:
                return asker.deepest;
            case 2:
                return asker.newCount;
            case 3:
                return asker.together;
            case 4:
                return table.classes;
            case 5:
                return table.parameters;
            case 6:
                return table.codeLength;
            case 7:
                return tape.length;
            case 8:
                return page.length;
            case 9:
                return ways.expansive ? 1 : 0;
            default:
                throw new IllegalArgumentException("what is 0 to 9");
        }
    }

    public int above() {
        boolean right = reader.readPlace(table);
        latestFault = reader.found;
        if (!right) {
            return -10 - reader.foundAt;
        }
        asker.startOver(table, reader.owner);
        int node = asker.nodeAbove(asker.nodeOf(reader.told, 0, reader.toldLength), reader.target);
        if (node == FULL) {
            return FULL;
        }
        return node < 0 ? 0 : page.writeType(asker.types, table, node);
    }

    public int variable(int v, int what) throws IndexOutOfBoundsException {
        if (v < 0 || v >= asker.newCount) {
            throw new IndexOutOfBoundsException("no such variable");
        }
        int node = what == NONE ? at(asker.newFloor, v) : asker.boundOfNew(v, what);
        return node < 0 ? 0 : page.writeType(asker.types, table, node);
    }

    public int written(int i) throws IndexOutOfBoundsException {
        if (i < 0 || i >= page.length) {
            throw new IndexOutOfBoundsException("no such byte");
        }
        return at(page.bytes, i);
    }

    public void clear() {
        tape.length = 0;
        page.length = 0;
        latestFault = 0;
        table.startOver();
        ways.measure(table);
        asker.startOver(table, NONE);
    }

    private static int at(int[] row, int i) {
        return i >= 0 && i < row.length ? row[i] : NONE;
    }

    private static long nameAt(long[] row, int i) {
        return i >= 0 && i < row.length ? row[i] : 0L;
    }

    private static void set(int[] row, int i, int value) {
        if (i >= 0 && i < row.length) {
            row[i] = value;
        }
    }

    private static boolean isClass(int head) {
        return head >= 0 && head < MOST_CLASSES;
    }

    private static boolean isParameter(int head) {
        return head >= PARAMETER_HEAD && head < PARAMETER_HEAD + ALL_PARAMETERS;
    }

    private static boolean isWild(int head) {
        return head >= WILD && head <= WILD_DOWN;
    }

    /** The tape and its tokens, all cut before the first is looked at; a sign's kind is its byte. */
    private static final class Tape {
        private static final int END = 0, BAD = 1, NAME = 2, IN = 3, WITH = 4, OVER = 5;
        private static final long IN_NAME = 0x696EL, WITH_NAME = 0x77697468L, OVER_NAME = 0x61626F7665L;
        private static final String SIGNS = "<>,:&?^;=";

        private final int[] bytes = new int[TAPE_BYTES];
        private final int[] kinds = new int[TAPE_BYTES + 1];
        private final int[] places = new int[TAPE_BYTES + 1];
        private final long[] names = new long[TAPE_BYTES + 1];
        private int length;
        private int now;
        /** Of the token at hand. */
        private int kind;
        private int place;
        private long name;

        private void append(long number, int n) {
            for (int i = n - 1; i >= 0; i--) {
                set(bytes, length, (int) (number >>> (8 * i)) & 255);
                length++;
            }
        }

        /** Cuts what is on the tape, empties it and stands at the first token. */
        private void cut() {
            int count = 0;
            int i = 0;
            while (i < length && i < TAPE_BYTES && count < TAPE_BYTES) {
                int b = bytes[i];
                int size = 1;
                if (b != ' ' && b != '\n') {
                    size = Math.max(1, nameSize(i));
                    places[count] = i;
                    names[count] = size <= NAME_BYTES ? nameOf(i, size) : 0L;
                    kinds[count] = kindOf(b, size, names[count]);
                    count++;
                }
                i += size;
            }
            places[count] = length;
            names[count] = 0L;
            kinds[count] = END;
            length = 0;
            now = -1;
            kind = BAD;
            step();
        }

        private int nameSize(int from) {
            if (from >= length || !isLetter(at(bytes, from))) {
                return 0;
            }
            int i = from + 1;
            while (i < length && isNameByte(at(bytes, i))) {
                i++;
            }
            return i - from;
        }

        private long nameOf(int from, int size) {
            long name = 0L;
            for (int i = from; i < from + size; i++) {
                name = name << 8 | at(bytes, i);
            }
            return name;
        }

        private static int kindOf(int b, int size, long name) {
            if (!isLetter(b)) {
                return SIGNS.indexOf((char) b) >= 0 ? b : BAD;
            }
            if (size > NAME_BYTES) {
                return BAD;
            }
            if (name == IN_NAME) {
                return IN;
            }
            if (name == WITH_NAME) {
                return WITH;
            }
            return name == OVER_NAME ? OVER : NAME;
        }

        private static boolean isLetter(int b) {
            return b >= 'A' && b <= 'Z' || b >= 'a' && b <= 'z';
        }

        private static boolean isNameByte(int b) {
            return isLetter(b) || b >= '0' && b <= '9';
        }

        /** A < with = as the next token is none of a TYPE. */
        private boolean opensArgs() {
            return kind == '<' && at(kinds, now + 1) != '=';
        }

        /** To the next token; behind the END there is none. */
        private void step() {
            int next = now + 1;
            if (kind != END && next >= 0 && next <= TAPE_BYTES) {
                now = next;
                kind = kinds[next];
                place = places[next];
                name = names[next];
            }
        }
    }

    /** A table as told, with what is ABOVE each of its classes. */
    private static final class Table {
        private final long[] className = new long[MOST_CLASSES];
        private final int[] firstParameter = new int[MOST_CLASSES];
        private final int[] parameterCount = new int[MOST_CLASSES];
        private final int[] superCount = new int[MOST_CLASSES];
        private final int[] superStart = new int[MOST_CLASSES * MOST_SUPERS];
        private final long[] parameterName = new long[ALL_PARAMETERS];
        private final int[] parameterClass = new int[ALL_PARAMETERS];
        private final int[] boundCount = new int[ALL_PARAMETERS];
        private final int[] boundStart = new int[ALL_PARAMETERS * MOST_BOUNDS];
        private final int[] boundLength = new int[ALL_PARAMETERS * MOST_BOUNDS];
        private final int[] code = new int[TEXT_NODES];
        private final Overs overs = new Overs();
        private int classes;
        private int parameters;
        private int codeLength;

        private Table() {
            startOver();
        }

        private void startOver() {
            classes = 0;
            parameters = 0;
            codeLength = 0;
            overs.startOver();
            addClass(ANY_NAME);
            overs.addOwn(ANY, 0, 0);
        }

        private int addClass(long name) {
            int k = classes;
            if (k < MOST_CLASSES) {
                className[k] = name;
                firstParameter[k] = parameters;
                parameterCount[k] = 0;
                superCount[k] = 0;
                classes++;
            }
            return k;
        }

        private void addParameter(int k, long name) {
            int p = parameters;
            if (p < ALL_PARAMETERS && k >= 0 && k < MOST_CLASSES) {
                parameterName[p] = name;
                parameterClass[p] = k;
                boundCount[p] = 0;
                parameterCount[k]++;
                parameters++;
            }
        }

        private void addBound(int p, int start, int length) {
            int i = at(boundCount, p);
            if (i >= 0 && i < MOST_BOUNDS) {
                set(boundStart, p * MOST_BOUNDS + i, start);
                set(boundLength, p * MOST_BOUNDS + i, length);
                set(boundCount, p, i + 1);
            }
        }

        private void addSuper(int k, int start) {
            int i = at(superCount, k);
            if (i >= 0 && i < MOST_SUPERS) {
                set(superStart, k * MOST_SUPERS + i, start);
                set(superCount, k, i + 1);
            }
        }

        private int findClass(long name) {
            for (int k = 0; k < classes && k < MOST_CLASSES; k++) {
                if (className[k] == name) {
                    return k;
                }
            }
            return NONE;
        }

        private int findParameter(int k, long name) {
            if (k < 0 || k >= classes || k >= MOST_CLASSES) {
                return NONE;
            }
            int first = firstParameter[k];
            int end = first + parameterCount[k];
            for (int p = first; p < end; p++) {
                if (nameAt(parameterName, p) == name) {
                    return p;
                }
            }
            return NONE;
        }

        /** The head that a NAME in a TYPE means, where class k's PARAMETERS come first. */
        private int headOf(int k, long name) {
            int p = findParameter(k, name);
            return p >= 0 ? PARAMETER_HEAD + p : findClass(name);
        }

        /** How many parts stand behind a head. */
        private int arity(int head) {
            if (head >= 0 && head < classes && head < MOST_CLASSES) {
                return parameterCount[head];
            }
            return head == WILD_UP || head == WILD_DOWN ? 1 : 0;
        }

        /** The place behind the TYPE or ? that begins at start, in the TYPES as told. */
        private int endOfPart(int start) {
            int open = 1;
            for (int i = start; i < codeLength; i++) {
                open += arity(at(code, i)) - 1;
                if (open == 0) {
                    return i + 1;
                }
            }
            return codeLength;
        }

        private int overLength(int k, int over) {
            return at(overs.length, k * MOST_CLASSES + over);
        }

        private int overStart(int k, int over) {
            return at(overs.start, k * MOST_CLASSES + over);
        }

        private int countOver(int k) {
            int count = 0;
            for (int c = 0; c < classes; c++) {
                if (overLength(k, c) > 0) {
                    count++;
                }
            }
            return count;
        }

        /** Finds what is ABOVE class k; false if the document does not let it be so. */
        private boolean closeClass(int k) {
            overs.addOwn(k, at(firstParameter, k), arity(k));
            for (int i = 0; i < at(superCount, k); i++) {
                int start = at(superStart, k * MOST_SUPERS + i);
                int under = at(code, start);
                overs.startArgs();
                int from = start + 1;
                for (int j = 0; j < arity(under); j++) {
                    int end = endOfPart(from);
                    overs.addArg(from, end - from);
                    from = end;
                }
                if (!inheritAll(k, under)) {
                    return false;
                }
            }
            overs.addAny(k);
            return true;
        }

        private boolean inheritAll(int k, int under) {
            int first = at(firstParameter, under);
            for (int c = 0; c < classes; c++) {
                if (overLength(under, c) > 0
                        && !overs.inherit(k * MOST_CLASSES + c, under * MOST_CLASSES + c, first, code)) {
                    return false;
                }
            }
            return true;
        }
    }

    /** For each class and each one above it the TYPE above, with the class's own PARAMETERS. */
    private static final class Overs {
        /** One TYPE for each pair, and one more that is only looked at. */
        private static final int MOST_CODE = (MOST_CLASSES * MOST_CLASSES + 1) * ABOVE_NODES;

        private final int[] start = new int[MOST_CLASSES * MOST_CLASSES];
        private final int[] length = new int[MOST_CLASSES * MOST_CLASSES];
        private final int[] argStart = new int[MOST_PARAMETERS];
        private final int[] argLength = new int[MOST_PARAMETERS];
        private int args;
        private int[] code = new int[1024];
        private int used;

        private void startOver() {
            used = 0;
            Arrays.fill(length, 0);
        }

        private void startArgs() {
            args = 0;
        }

        private void addArg(int from, int size) {
            set(argStart, args, from);
            set(argLength, args, size);
            args++;
        }

        private void addOwn(int k, int first, int parameters) {
            makeRoom(parameters + 1);
            set(start, k * MOST_CLASSES + k, used);
            set(length, k * MOST_CLASSES + k, parameters + 1);
            write(k);
            for (int i = 0; i < parameters; i++) {
                write(PARAMETER_HEAD + first + i);
            }
        }

        private void addAny(int k) {
            if (at(length, k * MOST_CLASSES + ANY) == 0) {
                makeRoom(1);
                set(start, k * MOST_CLASSES + ANY, used);
                set(length, k * MOST_CLASSES + ANY, 1);
                write(ANY);
            }
        }

        /**
         * Puts the present ARGS, which are parts of told, in the PARAMETERS' place of one pair's
         * TYPE, for another pair; false if it is too long, or that pair has another one.
         */
        private boolean inherit(int pair, int from, int first, int[] told) {
            int size = sizeWithArgs(from, first);
            if (size > ABOVE_NODES) {
                return false;
            }
            makeRoom(size);
            int begin = used;
            int end = at(start, from) + at(length, from);
            for (int i = at(start, from); i < end; i++) {
                int head = at(code, i);
                if (isParameter(head)) {
                    writeArg(head - PARAMETER_HEAD - first, told);
                } else {
                    write(head);
                }
            }
            if (at(length, pair) > 0) {
                used = begin;
                return isSame(at(start, pair), at(length, pair), begin, size);
            }
            set(start, pair, begin);
            set(length, pair, size);
            return true;
        }

        private int sizeWithArgs(int from, int first) {
            int size = 0;
            int end = at(start, from) + at(length, from);
            for (int i = at(start, from); i < end; i++) {
                int head = at(code, i);
                size += isParameter(head) ? at(argLength, head - PARAMETER_HEAD - first) : 1;
            }
            return size;
        }

        private void writeArg(int j, int[] told) {
            int from = at(argStart, j);
            int end = from + at(argLength, j);
            for (int i = from; i < end; i++) {
                write(at(told, i));
            }
        }

        private boolean isSame(int one, int oneLength, int other, int otherLength) {
            if (oneLength != otherLength) {
                return false;
            }
            for (int i = 0; i < oneLength; i++) {
                if (at(code, one + i) != at(code, other + i)) {
                    return false;
                }
            }
            return true;
        }

        private void makeRoom(int more) {
            int need = used + more;
            if (need > code.length && need <= MOST_CODE) {
                code = Arrays.copyOf(code, Math.min(MOST_CODE, Math.max(2 * code.length, need)));
            }
        }

        private void write(int head) {
            if (used >= 0 && used < code.length) {
                code[used] = head;
                used++;
            }
        }
    }

    /** Which PARAMETERS lead to which, and which lie on a ROUND with a way that GROWS. */
    private static final class Ways {
        private final int[] sort = new int[ALL_PARAMETERS * ALL_PARAMETERS];
        private final int[] reach = new int[ALL_PARAMETERS * ALL_PARAMETERS];
        private final int[] onRound = new int[ALL_PARAMETERS];
        private boolean expansive;

        /** All TYPES as told stand behind a : of a DECL or within one that does. */
        private void measure(Table table) {
            Arrays.fill(sort, 0);
            Arrays.fill(onRound, 0);
            expansive = false;
            for (int i = 0; i < table.codeLength; i++) {
                int head = at(table.code, i);
                int from = i + 1;
                for (int j = 0; isClass(head) && j < table.arity(head); j++) {
                    int end = table.endOfPart(from);
                    addWays(table.code, from, end, at(table.firstParameter, head) + j);
                    from = end;
                }
            }
            closeReach(table.parameters);
            markRounds(table.parameters);
        }

        private void addWays(int[] code, int from, int end, int target) {
            int grade = end - from > 1 ? 2 : 1;
            for (int i = from; i < end; i++) {
                int head = at(code, i);
                if (isParameter(head)) {
                    int way = (head - PARAMETER_HEAD) * ALL_PARAMETERS + target;
                    set(sort, way, Math.max(grade, at(sort, way)));
                }
            }
        }

        private void closeReach(int parameters) {
            System.arraycopy(sort, 0, reach, 0, reach.length);
            for (int k = 0; k < parameters; k++) {
                for (int i = 0; i < parameters; i++) {
                    if (at(reach, i * ALL_PARAMETERS + k) > 0) {
                        joinReach(i, k, parameters);
                    }
                }
            }
        }

        private void joinReach(int i, int k, int parameters) {
            for (int j = 0; j < parameters; j++) {
                if (at(reach, k * ALL_PARAMETERS + j) > 0) {
                    set(reach, i * ALL_PARAMETERS + j, 1);
                }
            }
        }

        private void markRounds(int parameters) {
            for (int p = 0; p < parameters; p++) {
                for (int q = 0; q < parameters; q++) {
                    if (at(sort, p * ALL_PARAMETERS + q) == 2 && leads(q, p)) {
                        expansive = true;
                        markRound(p, parameters);
                    }
                }
            }
        }

        private void markRound(int p, int parameters) {
            for (int r = 0; r < parameters; r++) {
                if (leads(p, r) && leads(r, p)) {
                    set(onRound, r, 1);
                }
            }
        }

        private boolean leads(int p, int q) {
            return p == q || at(reach, p * ALL_PARAMETERS + q) > 0;
        }
    }

    /** Reads tables, questions and places; each method answers false when it has found a FAULT. */
    private static final class Reader {
        private static final int INSIDE = 0, AS_SUPER = 1, AS_BOUND = 2;

        private final Tape tape;
        private final int[] question = new int[TEXT_NODES];
        private Table table;
        private int[] told;
        private int toldLength;
        private int owner;
        private int second;
        private int target;
        private int found;
        private int foundAt;
        /** The TYPE that has ended last has other many ARGS than parameters: a FAULT at the next token. */
        private boolean miscounted;

        private Reader(Tape tape, Table table) {
            this.tape = tape;
            this.table = table;
            this.told = question;
        }

        private void start(Table of, int[] into) {
            table = of;
            told = into;
            toldLength = 0;
            owner = NONE;
            second = 0;
            target = NONE;
            found = 0;
            foundAt = 0;
            miscounted = false;
            tape.cut();
        }

        private boolean readTable(Table into) {
            into.startOver();
            start(into, into.code);
            for (int i = 0; i <= MOST_CLASSES; i++) {
                if (!declaration()) {
                    return false;
                }
                if (tape.kind == Tape.END) {
                    return true;
                }
            }
            return fail(LIMIT_FAULT);
        }

        private boolean readQuestion(Table of) {
            start(of, question);
            if (!opening() || !type(0, INSIDE, false) || !behindType(tape.kind == '<')) {
                return false;
            }
            tape.step();
            if (tape.kind != '=') {
                return fail(TOKEN_FAULT);
            }
            tape.step();
            second = toldLength;
            return type(0, INSIDE, false) && behindType(tape.kind == Tape.END);
        }

        private boolean readPlace(Table of) {
            start(of, question);
            if (!opening() || !type(0, INSIDE, false) || !behindType(tape.kind == Tape.OVER)) {
                return false;
            }
            tape.step();
            if (tape.kind != Tape.NAME) {
                return fail(TOKEN_FAULT);
            }
            target = table.findClass(tape.name);
            if (target < 0) {
                return fail(MEANING_FAULT);
            }
            tape.step();
            return tape.kind == Tape.END || fail(TOKEN_FAULT);
        }

        private boolean opening() {
            if (tape.kind != Tape.IN) {
                return true;
            }
            tape.step();
            if (tape.kind != Tape.NAME) {
                return fail(TOKEN_FAULT);
            }
            owner = table.findClass(tape.name);
            if (owner < 0) {
                return fail(MEANING_FAULT);
            }
            tape.step();
            if (tape.kind != ':') {
                return fail(TOKEN_FAULT);
            }
            tape.step();
            return true;
        }

        private boolean declaration() {
            if (tape.kind != Tape.NAME) {
                return fail(TOKEN_FAULT);
            }
            if (table.findClass(tape.name) >= 0) {
                return fail(TWICE_FAULT);
            }
            if (table.classes >= MOST_CLASSES) {
                return fail(LIMIT_FAULT);
            }
            owner = table.addClass(tape.name);
            tape.step();
            if (tape.kind == '<' && !parameterNames()
                    || tape.kind == Tape.WITH && !bounds()
                    || tape.kind == ':' && !supers()) {
                return false;
            }
            if (tape.kind != ';') {
                return fail(TOKEN_FAULT);
            }
            table.codeLength = toldLength;
            if (!table.closeClass(owner)) {
                return fail(ABOVE_FAULT);
            }
            tape.step();
            return true;
        }

        private boolean parameterNames() {
            for (int i = 0; i <= MOST_PARAMETERS; i++) {
                tape.step();
                if (tape.kind != Tape.NAME) {
                    return fail(TOKEN_FAULT);
                }
                if (table.findParameter(owner, tape.name) >= 0) {
                    return fail(TWICE_FAULT);
                }
                if (i >= MOST_PARAMETERS) {
                    return fail(LIMIT_FAULT);
                }
                table.addParameter(owner, tape.name);
                tape.step();
                if (tape.kind == '>') {
                    tape.step();
                    return true;
                }
                if (tape.kind != ',') {
                    return fail(TOKEN_FAULT);
                }
            }
            return fail(LIMIT_FAULT);
        }

        private boolean bounds() {
            int p = NONE;
            for (int i = 0; i <= MOST_PARAMETERS * (MOST_BOUNDS + 1); i++) {
                if (tape.kind != '&') {
                    p = boundName();
                    if (p < 0) {
                        return false;
                    }
                }
                tape.step();
                int start = toldLength;
                if (!type(0, AS_BOUND, at(table.boundCount, p) >= MOST_BOUNDS)
                        || !behindType(isBehindBound(tape.kind))) {
                    return false;
                }
                table.addBound(p, start, toldLength - start);
                if (tape.kind == ':' || tape.kind == ';') {
                    return true;
                }
            }
            return fail(LIMIT_FAULT);
        }

        private static boolean isBehindBound(int kind) {
            return kind == '&' || kind == ',' || kind == ':' || kind == ';';
        }

        /** Steps over with or a comma and a NAME to its : ; the PARAMETER, or NONE with a FAULT. */
        private int boundName() {
            tape.step();
            if (tape.kind != Tape.NAME) {
                fail(TOKEN_FAULT);
                return NONE;
            }
            int p = table.findParameter(owner, tape.name);
            if (p < 0 || at(table.boundCount, p) > 0) {
                fail(p < 0 ? MEANING_FAULT : TWICE_FAULT);
                return NONE;
            }
            tape.step();
            if (tape.kind != ':') {
                fail(TOKEN_FAULT);
                return NONE;
            }
            return p;
        }

        private boolean supers() {
            for (int i = 0; i <= MOST_SUPERS; i++) {
                tape.step();
                int start = toldLength;
                if (!type(0, AS_SUPER, i >= MOST_SUPERS)
                        || !behindType(tape.kind == ',' || tape.kind == ';')) {
                    return false;
                }
                table.addSuper(owner, start);
                if (tape.kind == ';') {
                    return true;
                }
            }
            return fail(LIMIT_FAULT);
        }

        /** A TYPE in as many others as around tells; it ends at the token behind it. */
        private boolean type(int around, int where, boolean tooMany) {
            if (tape.kind != Tape.NAME) {
                return fail(TOKEN_FAULT);
            }
            int head = table.headOf(owner, tape.name);
            if (head < 0) {
                return fail(MEANING_FAULT);
            }
            if (tooMany || around >= MOST_AROUND || toldLength >= TEXT_NODES) {
                return fail(LIMIT_FAULT);
            }
            if (where != INSIDE && isParameter(head) || where == AS_SUPER && head == owner) {
                return fail(PLACE_FAULT);
            }
            tell(head);
            tape.step();
            int count = 0;
            if (tape.opensArgs()) {
                if (isParameter(head)) {
                    return fail(COUNT_FAULT);
                }
                count = args(around + 1, where == AS_SUPER);
                if (count < 0) {
                    return false;
                }
            }
            miscounted = count != table.arity(head);
            return true;
        }

        /** How many ARGS there are, from the < to behind the > ; NONE with a FAULT. */
        private int args(int around, boolean ofSuper) {
            for (int count = 1; count <= TEXT_NODES; count++) {
                tape.step();
                boolean right = tape.kind == '?' ? wild(around, ofSuper) : type(around, INSIDE, false);
                if (!right || !behindType(tape.kind == ',' || tape.kind == '>')) {
                    return NONE;
                }
                if (tape.kind == '>') {
                    tape.step();
                    return count;
                }
            }
            fail(LIMIT_FAULT);
            return NONE;
        }

        private boolean wild(int around, boolean ofSuper) {
            if (toldLength >= TEXT_NODES) {
                return fail(LIMIT_FAULT);
            }
            if (ofSuper) {
                return fail(PLACE_FAULT);
            }
            tape.step();
            boolean up = tape.kind == ':';
            if (!up && tape.kind != '^') {
                tell(WILD);
                return true;
            }
            tell(up ? WILD_UP : WILD_DOWN);
            tape.step();
            return type(around, INSIDE, false);
        }

        /** At the token behind a TYPE: whether it may stand there comes before the TYPE's ARGS. */
        private boolean behindType(boolean mayStand) {
            if (!mayStand) {
                return fail(TOKEN_FAULT);
            }
            return !miscounted || fail(COUNT_FAULT);
        }

        private void tell(int head) {
            set(told, toldLength, head);
            toldLength++;
        }

        /** Of one token by code: one that is none at all comes before all else about it. */
        private boolean fail(int code) {
            found = tape.kind == Tape.BAD ? BYTE_FAULT : code;
            foundAt = tape.place;
            return false;
        }
    }

    /** The TYPES of one question as nodes; those that are the same are one node. */
    private static final class Types {
        private static final int CHAINS = 2048;

        private final int[] heads = new int[MOST_NODES];
        private final int[] firstPart = new int[MOST_NODES];
        private final int[] nextInChain = new int[MOST_NODES];
        private final int[] parts = new int[MOST_NODES];
        private final int[] chains = new int[CHAINS];
        private final int[] stack = new int[TEXT_NODES];
        private Table table;
        private int count;
        private int partCount;

        private Types(Table table) {
            this.table = table;
        }

        private void startOver(Table of) {
            table = of;
            count = 0;
            partCount = 0;
            Arrays.fill(chains, NONE);
        }

        private int head(int node) {
            return node < count ? at(heads, node) : NONE;
        }

        private int part(int node, int i) {
            int from = node < count ? at(firstPart, node) : NONE;
            return from >= 0 && i >= 0 && from + i < partCount ? at(parts, from + i) : NONE;
        }

        private int partsOf(int node) {
            return table.arity(head(node));
        }

        /** A node without parts. */
        private int leaf(int head) {
            return make(head, TEXT_NODES);
        }

        /**
         * The node of a row of heads, with args from argsAt on in the place of PARAMETERS from
         * first on. It goes backwards: the parts of a head are there before it, on the stack.
         */
        private int put(int[] code, int start, int length, int[] args, int argsAt, int first) {
            int top = TEXT_NODES;
            for (int i = start + length - 1; i >= start; i--) {
                int head = at(code, i);
                int node;
                if (isParameter(head)) {
                    node = at(args, argsAt + head - PARAMETER_HEAD - first);
                } else {
                    node = make(head, top);
                    top += table.arity(head);
                }
                top--;
                set(stack, top, node);
            }
            return at(stack, top);
        }

        /** The node with a head and the parts that are on the stack from a place on. */
        private int make(int head, int from) {
            int size = table.arity(head);
            int hash = head;
            for (int i = 0; i < size; i++) {
                hash = hash * 31 + at(stack, from + i);
            }
            int chain = (hash ^ hash >>> 11) & CHAINS - 1;
            int node = at(chains, chain);
            for (int i = 0; i < MOST_NODES && node >= 0; i++) {
                if (at(heads, node) == head && hasParts(node, from, size)) {
                    return node;
                }
                node = at(nextInChain, node);
            }
            node = count;
            if (node >= MOST_NODES || partCount + size > MOST_NODES) {
                return NONE;
            }
            set(heads, node, head);
            set(firstPart, node, partCount);
            set(nextInChain, node, at(chains, chain));
            set(chains, chain, node);
            for (int i = 0; i < size; i++) {
                set(parts, partCount + i, at(stack, from + i));
            }
            partCount += size;
            count++;
            return node;
        }

        private boolean hasParts(int node, int from, int size) {
            int first = node >= 0 && node < MOST_NODES ? firstPart[node] : MOST_NODES;
            if (from < 0 || first < 0 || from + size > TEXT_NODES || first + size > MOST_NODES) {
                return size == 0;
            }
            for (int i = 0; i < size; i++) {
                if (stack[from + i] != parts[first + i]) {
                    return false;
                }
            }
            return true;
        }
    }

    /** Answers one question or place, and keeps what it counted and the NEW variables it made. */
    private static final class Asker {
        private final Types types;
        private final int[] newBoundCount = new int[MOST_NEW];
        private final int[] newBound = new int[MOST_NEW * NEW_BOUNDS];
        private final int[] newFloor = new int[MOST_NEW];
        private final int[] ownArgs = new int[MOST_PARAMETERS];
        private final int[] ownBound = new int[MOST_PARAMETERS * MOST_BOUNDS];
        /** For each depth the ARGS at hand there, which the questions below must not touch. */
        private final int[] frames = new int[(MOST_DEPTH + 1) * MOST_PARAMETERS];
        private Table table;
        private int ownFirst;
        private int any;
        private int fuel;
        private int asked;
        private int deepest;
        private int newCount;
        private int together;

        private Asker(Table table) {
            this.table = table;
            this.types = new Types(table);
        }

        /** Forgets all, for questions in which PARAMETERS of class owner (or none) stand. */
        private void startOver(Table of, int owner) {
            table = of;
            asked = 0;
            deepest = 0;
            newCount = 0;
            together = 0;
            types.startOver(of);
            any = types.leaf(ANY);
            ownFirst = owner < 0 ? 0 : at(of.firstParameter, owner);
            int own = owner < 0 ? 0 : of.arity(owner);
            for (int i = 0; i < own; i++) {
                set(ownArgs, i, types.leaf(PARAMETER_HEAD + ownFirst + i));
            }
            for (int i = 0; i < own * MOST_BOUNDS; i++) {
                set(ownBound, i, NONE);
            }
            for (int i = 0; i < own; i++) {
                tellOwnBounds(i);
            }
        }

        private void tellOwnBounds(int i) {
            int p = ownFirst + i;
            set(ownBound, i * MOST_BOUNDS, any);
            for (int b = 0; b < at(table.boundCount, p); b++) {
                int from = p * MOST_BOUNDS + b;
                set(ownBound, i * MOST_BOUNDS + b,
                        nodeOf(table.code, at(table.boundStart, from), at(table.boundLength, from)));
            }
        }

        private int nodeOf(int[] code, int start, int length) {
            return types.put(code, start, length, ownArgs, 0, ownFirst);
        }

        /** The node of the TYPE of class k above s; NONE if there is none, or FULL. */
        private int nodeAbove(int s, int k) {
            int head = types.head(s);
            if (k == ANY) {
                return any;
            }
            if (head == k) {
                return s;
            }
            if (!isClass(head) || table.overLength(head, k) <= 0) {
                return NONE;
            }
            return captureArgs(s, 0) ? raise(head, k, 0) : FULL;
        }

        /** One question: 1 or 0, or the end that it came to. */
        private int below(int s, int t, int depth) {
            if (asked >= fuel) {
                return FUEL;
            }
            if (depth > MOST_DEPTH) {
                return DEEP;
            }
            asked++;
            deepest = Math.max(deepest, depth);
            if (s == t || t == any) {
                return 1;
            }
            int floor = floorOf(t);
            if (floor >= 0) {
                int end = below(s, floor, depth + 1);
                if (end != 0) {
                    return end;
                }
            }
            if (!isClass(types.head(s))) {
                return boundsBelow(s, t, depth);
            }
            return isClass(types.head(t)) ? classBelow(s, t, depth) : 0;
        }

        private int boundsBelow(int s, int t, int depth) {
            for (int i = 0; i < NEW_BOUNDS; i++) {
                int bound = boundOf(s, i);
                if (bound < 0) {
                    return 0;
                }
                int end = below(bound, t, depth + 1);
                if (end != 0) {
                    return end;
                }
            }
            return 0;
        }

        private int classBelow(int s, int t, int depth) {
            int frame = depth * MOST_PARAMETERS;
            if (!captureArgs(s, frame)) {
                return FULL;
            }
            int low = types.head(s);
            int high = types.head(t);
            if (table.overLength(low, high) <= 0) {
                return 0;
            }
            if (low != high) {
                int raised = raise(low, high, frame);
                if (raised < 0) {
                    return raised;
                }
                for (int i = 0; i < types.partsOf(raised); i++) {
                    set(frames, frame + i, types.part(raised, i));
                }
            }
            for (int i = 0; i < types.partsOf(t); i++) {
                int end = argBelow(at(frames, frame + i), types.part(t, i), depth);
                if (end != 1) {
                    return end;
                }
            }
            return 1;
        }

        private int argBelow(int q, int b, int depth) {
            switch (types.head(b)) {
                case WILD:
                    return 1;
                case WILD_UP:
                    return below(q, types.part(b, 0), depth + 1);
                case WILD_DOWN:
                    return below(types.part(b, 0), q, depth + 1);
                default:
                    return q == b ? 1 : 0;
            }
        }

        /** Lays the ARGS of s into a frame, each ? as a NEW variable with its FLOOR; false for FULL. */
        private boolean captureArgs(int s, int frame) {
            int size = types.partsOf(s);
            for (int i = 0; i < size; i++) {
                int arg = types.part(s, i);
                if (isWild(types.head(arg))) {
                    if (newCount >= MOST_NEW) {
                        return false;
                    }
                    set(newBoundCount, newCount, 0);
                    set(newFloor, newCount, types.head(arg) == WILD_DOWN ? types.part(arg, 0) : NONE);
                    arg = types.leaf(NEW_HEAD + newCount);
                    newCount++;
                }
                set(frames, frame + i, arg);
            }
            for (int i = 0; i < size; i++) {
                if (isWild(types.head(types.part(s, i))) && !bind(s, i, frame)) {
                    return false;
                }
            }
            return true;
        }

        /** Gives its BOUNDS to the NEW variable of the ARG at place i of s. */
        private boolean bind(int s, int i, int frame) {
            int v = types.head(at(frames, frame + i)) - NEW_HEAD;
            int arg = types.part(s, i);
            if (types.head(arg) == WILD_UP) {
                addBound(v, types.part(arg, 0));
            }
            int first = at(table.firstParameter, types.head(s));
            int p = first + i;
            for (int b = 0; b < at(table.boundCount, p); b++) {
                int from = p * MOST_BOUNDS + b;
                int size = at(table.boundLength, from);
                if (!count(size)) {
                    return false;
                }
                addBound(v, types.put(table.code, at(table.boundStart, from), size, frames, frame, first));
            }
            if (at(newBoundCount, v) == 0) {
                addBound(v, any);
            }
            return true;
        }

        private void addBound(int v, int node) {
            int i = at(newBoundCount, v);
            if (i >= 0 && i < NEW_BOUNDS) {
                set(newBound, v * NEW_BOUNDS + i, node);
                set(newBoundCount, v, i + 1);
            }
        }

        /** The TYPE of class high above class low with the ARGS of a frame, or FULL. */
        private int raise(int low, int high, int frame) {
            int size = table.overLength(low, high);
            if (!count(size)) {
                return FULL;
            }
            return types.put(table.overs.code, table.overStart(low, high), size, frames, frame,
                    at(table.firstParameter, low));
        }

        private boolean count(int nodes) {
            if (together + nodes > MOST_TOGETHER) {
                return false;
            }
            together += nodes;
            return true;
        }

        private int floorOf(int t) {
            int v = types.head(t) - NEW_HEAD;
            return v >= 0 && v < newCount ? at(newFloor, v) : NONE;
        }

        /** BOUND i of a variable; NONE if it has none such. */
        private int boundOf(int s, int i) {
            int head = types.head(s);
            if (!isParameter(head)) {
                return boundOfNew(head - NEW_HEAD, i);
            }
            int own = head - PARAMETER_HEAD - ownFirst;
            return i < MOST_BOUNDS ? at(ownBound, own * MOST_BOUNDS + i) : NONE;
        }

        private int boundOfNew(int v, int i) {
            return i >= 0 && i < at(newBoundCount, v) ? at(newBound, v * NEW_BOUNDS + i) : NONE;
        }
    }

    /** What was written latest. */
    private static final class Page {
        /** Each open TYPE has a byte of its own on the page at least, so no more can be open. */
        private static final int MOST_OPEN = PAGE_BYTES + 1;
        private static final int MOST_TURNS = 4 * PAGE_BYTES;

        private final int[] bytes = new int[PAGE_BYTES];
        private final int[] openNode = new int[MOST_OPEN];
        private final int[] openNext = new int[MOST_OPEN];
        private int length;
        private int open;

        /** Writes a node in place of what there is; how many bytes it has. */
        private int writeType(Types types, Table table, int node) {
            length = 0;
            open = 0;
            openType(types, table, node);
            for (int turn = 0; turn < MOST_TURNS && open > 0 && length < PAGE_BYTES; turn++) {
                int top = at(openNode, open - 1);
                int i = at(openNext, open - 1);
                boolean named = isClass(types.head(top));
                if (i >= types.partsOf(top)) {
                    open--;
                    if (named) {
                        write('>');
                    }
                } else {
                    set(openNext, open - 1, i + 1);
                    if (named) {
                        write(i == 0 ? '<' : ',');
                    }
                    openType(types, table, types.part(top, i));
                }
            }
            return length;
        }

        /** Writes a node's head, and leaves it open if parts are to come. */
        private void openType(Types types, Table table, int node) {
            writeHead(table, types.head(node));
            if (types.partsOf(node) > 0 && open < MOST_OPEN) {
                set(openNode, open, node);
                set(openNext, open, 0);
                open++;
            }
        }

        private void writeHead(Table table, int head) {
            if (isWild(head)) {
                write('?');
                if (head != WILD) {
                    write(head == WILD_UP ? ':' : '^');
                }
            } else if (head >= NEW_HEAD) {
                write('#');
                writeNumber(head - NEW_HEAD);
            } else if (isParameter(head)) {
                writeName(nameAt(table.parameterName, head - PARAMETER_HEAD));
            } else {
                writeName(nameAt(table.className, head));
            }
        }

        private void writeName(long name) {
            for (int i = NAME_BYTES - 1; i >= 0; i--) {
                int b = (int) (name >>> (8 * i)) & 255;
                if (b != 0) {
                    write(b);
                }
            }
        }

        private void writeNumber(int number) {
            if (number >= 100) {
                write('0' + number / 100);
            }
            if (number >= 10) {
                write('0' + number / 10 % 10);
            }
            write('0' + number % 10);
        }

        private void write(int b) {
            if (length < PAGE_BYTES) {
                set(bytes, length, b);
                length++;
            }
        }
    }
}
