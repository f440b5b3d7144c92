/**
 * The sentences of promises 1 to 8 and 10 to 14 that name an edge of a call, one method for each,
 * with the sentence above it.
 */
public final class CallEdgeTest {
    private static final Check C = new Check("CallEdgeTest");
    private static final int LEAST = Integer.MIN_VALUE;
    private static final int MOST = Integer.MAX_VALUE;
    private static final String TABLE = "Z; L<t>; M<x> with x : L<x> : L<L<x>>; P<a,b> with a : L<b> & Z : L<a>, Z;";

    public static void main(String[] args) {
        emptyTape();
        constants();
        lowestBytes();
        numbersOfBytes();
        fullTape();
        refusedFeed();
        tapeIsEmptyThen();
        inPlaceOfWhatThereIs();
        nothingIsLeft();
        nothingChanges();
        latestFault();
        refusedCallsKeepTheFault();
        classNumbers();
        classNames();
        firstParameters();
        classesAbove();
        aboveOrItself();
        parameterNumbers();
        boundsAsTold();
        wayNumbers();
        waysOfEachSort();
        toldNumbers();
        toldBefore();
        toldBehindRead();
        toldBehindFaults();
        tooManyIsNotCounted();
        aboveNone();
        aboveOfParameters();
        aboveMakesNoVariables();
        whatWasWrittenStays();
        variableNumbers();
        variableTypes();
        variablesOfTheLatest();
        boundsWhenFull();
        writtenNumbers();
        writtenForms();
        numbersOfVariables();
        aThousandBytes();
        cleared();
        manyCalls();
        C.end();
    }

    private static int above(BoundTables x, String place) {
        return Check.fed(x, place).above();
    }

    private static int read(BoundTables x, String table) {
        return Check.fed(x, table).read();
    }

    /** Promise 1, "an empty tape": it is no table, no question and no place. */
    private static void emptyTape() {
        C.due("read()", new BoundTables().read(), -10);
        C.due("ask(0)", new BoundTables().ask(0), -10);
        C.due("ask(3000)", new BoundTables().ask(3000), -10);
        C.due("above()", new BoundTables().above(), -10);
        BoundTables x = new BoundTables();
        x.above();
        C.due("fault()", x.fault(), 2);
        C.due("told(4)", x.told(4), 1);
        C.due("told(7)", x.told(7), 0);
        C.due("told(8)", x.told(8), 0);
    }

    private static void constants() {
        C.due("NONE", BoundTables.NONE, -1);
        C.due("DEEP", BoundTables.DEEP, -2);
        C.due("FUEL", BoundTables.FUEL, -3);
        C.due("FULL", BoundTables.FULL, -4);
    }

    /** Promise 2: "The lowest n bytes of a number, the highest of these first" */
    private static void lowestBytes() {
        String name = "Abcdefgh";
        for (int n = 1; n <= 8; n++) {
            BoundTables x = new BoundTables();
            C.due("feed(.., " + n + ")", x.feed(Check.packed(name), n), n);
            C.due("feed of a ;", x.feed(-256L | ';', 1), n + 1);
            C.due("read()", x.read(), 2);
            C.due("the name", x.cls(1, 3), Check.packed(name.substring(8 - n)));
        }
        BoundTables x = new BoundTables();
        x.feed(Long.MIN_VALUE | 'A', 1);
        x.feed(-1L << 16 | ';' << 8 | ' ', 2);
        C.due("numbers below 0", x.read(), 2);
        x.feed('A', 1);
        x.feed(0x80L, 1);
        C.due("byte 128", x.read(), -11);
        C.due("its fault", x.fault(), 1);
        x.feed(-1L, 8);
        C.due("bytes 255", x.read(), -10);
        x.feed('A', 2);
        C.due("byte 0 first", x.read(), -10);
        C.due("its fault", x.fault(), 1);
    }

    /** "IllegalArgument: n is not 1 .. 8." */
    private static void numbersOfBytes() {
        BoundTables x = new BoundTables();
        for (int n : new int[] {0, 9, -1, 10, 16, 64, 256 + 1, LEAST, LEAST + 1, MOST}) {
            C.throwsArgument("feed('A', " + n + ")", () -> x.feed('A', n));
            C.due("the tape stays", x.told(7), 0);
        }
        C.due("feed('A', 1)", x.feed('A', 1), 1);
        C.due("feed('A', 8)", x.feed('A', 8), 9);
    }

    /** "UnsupportedOperation: there would be more than 800." */
    private static void fullTape() {
        for (int room = 0; room <= 8; room++) {
            BoundTables x = new BoundTables();
            Check.fed(x, " ".repeat(800 - room));
            for (int n = 1; n <= 8; n++) {
                int more = n;
                if (n > room) {
                    C.throwsFull("feed(0, " + n + ") with room for " + room, () -> x.feed(0L, more));
                    C.due("the tape stays", x.told(7), 800 - room);
                }
            }
            if (room > 0) {
                C.due("feed(0, " + room + ")", x.feed(0L, room), 800);
            }
            C.throwsFull("feed(0, 1)", () -> x.feed(0L, 1));
            C.throwsArgument("feed(0, 0)", () -> x.feed(0L, 0));
            C.throwsArgument("feed(0, 9)", () -> x.feed(0L, 9));
            C.due("told(7)", x.told(7), 800);
        }
    }

    private static void refusedFeed() {
        BoundTables x = new BoundTables();
        Check.fed(x, "A;B:A;" + " ".repeat(793));
        C.throwsFull("feed of two", () -> x.feed(Check.packed("##"), 2));
        C.throwsArgument("feed of none", () -> x.feed(Check.packed("##"), 0));
        C.due("fault() stays", x.fault(), 0);
        C.due("feed of one", x.feed('\n', 1), 800);
        C.due("nothing of what was refused is there", x.read(), 3);
        C.due("the tape has room again", x.feed(0L, 8), 8);
    }

    /** Promises 3, 9 and 11: "The tape, which is empty then" */
    private static void tapeIsEmptyThen() {
        BoundTables x = new BoundTables();
        for (String text : new String[] {"A;", "A", "", "#", "A<=A", "A above A", "Any<=Any", "Any above Any", " ".repeat(800)}) {
            Check.fed(x, text);
            C.due("told(7)", x.told(7), text.length());
            x.read();
            C.due("told(7) behind read() of " + text, x.told(7), 0);
            Check.fed(x, text).ask(1);
            C.due("told(7) behind ask() of " + text, x.told(7), 0);
            Check.fed(x, text).above();
            C.due("told(7) behind above() of " + text, x.told(7), 0);
        }
    }

    /** Promise 3: "is a table, in place of what there is" */
    private static void inPlaceOfWhatThereIs() {
        BoundTables x = C.table(TABLE);
        C.due("a smaller one", read(x, "Y<y>;"), 2);
        C.due("told(4)", x.told(4), 2);
        C.due("told(5)", x.told(5), 1);
        C.due("told(6)", x.told(6), 0);
        C.due("its name", x.cls(1, 3), 'Y');
        C.due("its PARAMETER's name", x.parameter(0, 2), 'y');
        C.throwsIndex("cls(2, 0)", () -> x.cls(2, 0));
        C.throwsIndex("isAbove(2, 0)", () -> x.isAbove(2, 0));
        C.throwsIndex("parameter(1, 0)", () -> x.parameter(1, 0));
        C.throwsIndex("way(0, 1)", () -> x.way(0, 1));
        C.due("way(0, 0)", x.way(0, 0), 0);
        C.askFault(x, "!Z<=Any", 4);
        C.due("an old name once more", read(x, "Z; Y : Z;"), 3);
        C.due("isAbove(2, 1)", x.isAbove(2, 1), 1);
        C.due("the old table", read(x, TABLE), 5);
        C.due("told(6)", x.told(6), 2 + 3 + 3 + 2 + 1);
    }

    /** Of tables that were there before nothing is left, whichever they were. */
    private static void nothingIsLeft() {
        String[] texts = {"A;B:A,Any,A;", "A<a,b,c,d> with a:A<a,a,a,a>&Any,d:A<?:d,?,?,?>;B<a>:A<a,B<a>,a,a>,Any;", "A;B;",
            "A:Any;B<b>;C<c>:B<c>;D<d> with d:C<?>:C<d>,A;", "A<a>;B<a>;", TABLE};
        for (String last : texts) {
            for (String before : texts) {
                BoundTables x = C.table(before);
                read(x, before);
                read(x, before + "Y:Y;");
                C.due("a table behind others", read(x, last) > 0 ? 1 : 0, 1);
                C.due(last + " behind " + before, state(x), state(C.table(last)));
            }
        }
    }

    /** "-10 less the place of a FAULT: nothing changes." */
    private static void nothingChanges() {
        for (String text : new String[] {"", "#", "A;B", "A<a,b,c,d>;B:A<B,B,B,B>;B;", "A<t> with t:A<A<t>>:Any;Q:R;", "P<x>;Q:P;",
                "A<a,b,c,d,e>;", "A:A;", "A<t>;B:A<Any>,A<B>;", "Abcdefghi;"}) {
            BoundTables x = C.table(TABLE);
            C.due("a question", Check.ask(x, "P<?,?^Z> <= L<?:L<?>>"), 1);
            C.due("a BOUND", x.variable(0, 0), 5);
            String before = state(x);
            C.due("a FAULT in " + text, read(x, text) <= -10 ? 1 : 0, 1);
            C.due("fault() in " + text, x.fault() > 0 ? 1 : 0, 1);
            C.due("all is as before " + text, state(x), before);
            C.due("a FLOOR", x.variable(1, -1), 1);
            C.due("the same question", Check.ask(x, "P<?,?^Z> <= L<?:L<?>>"), 1);
        }
    }

    /** All that can be seen of an object but for fault(), the tape and what would be written. */
    private static String state(BoundTables x) {
        StringBuilder sb = new StringBuilder();
        for (int what = 0; what <= 9; what++) {
            sb.append(x.told(what)).append(' ');
        }
        for (int k = 0; k < x.told(4); k++) {
            for (int what = 0; what <= 4; what++) {
                sb.append(x.cls(k, what)).append(' ');
            }
            for (int above = 0; above < x.told(4); above++) {
                sb.append(x.isAbove(k, above));
            }
        }
        for (int p = 0; p < x.told(5); p++) {
            for (int what = 0; what <= 3; what++) {
                sb.append(x.parameter(p, what)).append(' ');
            }
            for (int q = 0; q < x.told(5); q++) {
                sb.append(x.way(p, q));
            }
        }
        return sb.append(Check.page(x)).toString();
    }

    /** Promise 4: "The FAULT of the latest read(), ask(), above(); 0 for none, and before." */
    private static void latestFault() {
        BoundTables x = new BoundTables();
        C.due("before", x.fault(), 0);
        String[] texts = {"#", "A", "A;A;", "A:B;", "A:Any<Any>;", "A<a,b,c,d,e>;", "A:A;", "A<t>;B:A<Any>,A<B>;"};
        for (int i = 0; i < texts.length; i++) {
            read(x, texts[i]);
            C.due("fault of " + texts[i], x.fault(), i + 1);
            C.due("and again", x.fault(), i + 1);
        }
        C.due("a right read", read(x, TABLE), 5);
        C.due("fault()", x.fault(), 0);
        Check.ask(x, "Z<=#");
        C.due("a byte in a question", x.fault(), 1);
        above(x, "Z above Y");
        C.due("a name in a place", x.fault(), 4);
        C.due("a right question with no", Check.ask(x, "Z<=L<Z>"), 0);
        C.due("fault()", x.fault(), 0);
        above(x, "L above Z");
        C.due("ARGS in a place", x.fault(), 5);
        C.due("a place of which there is none", above(x, "Z above L"), 0);
        C.due("fault()", x.fault(), 0);
        Check.ask(x, "Z");
        C.due("the end of a question", x.fault(), 2);
        C.due("a question without FUEL", Check.fed(x, "Z<=Z").ask(0), BoundTables.FUEL);
        C.due("fault()", x.fault(), 0);
    }

    private static void refusedCallsKeepTheFault() {
        BoundTables x = C.table(TABLE);
        Check.ask(x, "Z<=Y");
        Check.fed(x, "Z<=Z");
        C.throwsArgument("ask(-1)", () -> x.ask(-1));
        C.throwsArgument("ask(3001)", () -> x.ask(3001));
        C.throwsArgument("feed(0, 0)", () -> x.feed(0, 0));
        C.throwsArgument("told(10)", () -> x.told(10));
        C.throwsIndex("cls(5, 0)", () -> x.cls(5, 0));
        C.throwsIndex("variable(0, 0)", () -> x.variable(0, 0));
        C.due("fault() of the latest", x.fault(), 4);
        C.due("the tape", x.told(7), 4);
        C.due("the question", x.ask(1), 1);
        C.due("fault()", x.fault(), 0);
    }

    /** Promise 5: "IllegalArgument: another what." And "IndexOutOfBounds: there is no such class". */
    private static void classNumbers() {
        BoundTables x = C.table(TABLE);
        for (int k : new int[] {-1, 5, 6, 20, 21, 22, 1000, LEAST, MOST}) {
            C.throwsIndex("cls(" + k + ", 0)", () -> x.cls(k, 0));
            C.throwsIndex("cls(" + k + ", 4)", () -> x.cls(k, 4));
            C.throwsIndex("isAbove(" + k + ", 0)", () -> x.isAbove(k, 0));
            C.throwsIndex("isAbove(0, " + k + ")", () -> x.isAbove(0, k));
            C.throwsIndex("isAbove(" + k + ", " + k + ")", () -> x.isAbove(k, k));
        }
        for (int what : new int[] {-1, 5, 6, LEAST, MOST}) {
            for (int k = 0; k < 5; k++) {
                int of = k;
                C.throwsArgument("cls(" + k + ", " + what + ")", () -> x.cls(of, what));
            }
        }
        C.due("cls(4, 0)", x.cls(4, 0), 2);
        C.due("cls(0, 0)", x.cls(0, 0), 0);
    }

    /** "its name (3: its bytes, the first one highest)" */
    private static void classNames() {
        BoundTables x = C.table("a;z;A0;z9zzzzzz;Zzzzzzzz<Zzzzzzzz,q>;");
        String[] names = {"Any", "a", "z", "A0", "z9zzzzzz", "Zzzzzzzz"};
        for (int k = 0; k < names.length; k++) {
            C.due("name of " + k, x.cls(k, 3), Check.packed(names[k]));
        }
        C.due("a PARAMETER's name", x.parameter(0, 2), Check.packed("Zzzzzzzz"));
        C.due("another one's", x.parameter(1, 2), 'q');
    }

    /** "the number of its first PARAMETER (4; NONE without)" */
    private static void firstParameters() {
        BoundTables x = C.table("A;B<a>;C;D<a,b,c,d>;E<e>;F;");
        int[] first = {-1, -1, 0, -1, 1, 5, -1};
        for (int k = 0; k < first.length; k++) {
            C.due("first of " + k, x.cls(k, 4), first[k]);
        }
    }

    /** "classes above it, itself and ANY too (2)": each of them once. */
    private static void classesAbove() {
        BoundTables x = C.table("A;B:A,A;C:A,Any;D:B,C;E:D,B,C,A;F;G:F,E;");
        int[] count = {1, 2, 3, 3, 5, 6, 2, 8};
        for (int k = 0; k < count.length; k++) {
            C.due("classes above " + k, x.cls(k, 2), count[k]);
        }
        C.due("TYPES behind the : of E", x.cls(5, 1), 4);
    }

    /** Promise 6: "Whether a class is above another one (or it)" */
    private static void aboveOrItself() {
        BoundTables x = C.table("A;B:A;C:B;D;");
        String[] rows = {"10000", "11000", "11100", "11110", "10001"};
        for (int k = 0; k < rows.length; k++) {
            for (int above = 0; above < rows.length; above++) {
                C.due("isAbove(" + k + ", " + above + ")", x.isAbove(k, above), rows[k].charAt(above) - '0');
            }
        }
    }

    /** Promise 7: "IllegalArgument: another what." And "IndexOutOfBounds: there is no such parameter". */
    private static void parameterNumbers() {
        BoundTables x = C.table(TABLE);
        for (int p : new int[] {-1, 4, 5, 79, 80, 81, LEAST, MOST}) {
            C.throwsIndex("parameter(" + p + ", 0)", () -> x.parameter(p, 0));
            C.throwsIndex("parameter(" + p + ", 3)", () -> x.parameter(p, 3));
            C.throwsIndex("way(" + p + ", 0)", () -> x.way(p, 0));
            C.throwsIndex("way(0, " + p + ")", () -> x.way(0, p));
            C.throwsIndex("way(" + p + ", " + p + ")", () -> x.way(p, p));
        }
        for (int what : new int[] {-1, 4, 5, LEAST, MOST}) {
            for (int p = 0; p < 4; p++) {
                int of = p;
                C.throwsArgument("parameter(" + p + ", " + what + ")", () -> x.parameter(of, what));
            }
        }
        C.due("the last one's class", x.parameter(3, 0), 4);
        C.due("the first one's class", x.parameter(0, 0), 2);
        BoundTables none = C.table("A;");
        C.throwsIndex("a table without one", () -> none.parameter(0, 0));
        C.throwsIndex("a way without one", () -> none.way(0, 0));
    }

    /** "BOUNDS as told (1)": ANY is none of them if there was none. */
    private static void boundsAsTold() {
        BoundTables x = C.table("A<a,b,c,d> with c:Any,a:Any&Any,d:A<?,?,?,?>;");
        int[] bounds = {2, 0, 1, 1};
        for (int p = 0; p < 4; p++) {
            C.due("BOUNDS of " + p, x.parameter(p, 1), bounds[p]);
        }
    }

    /** Promise 8, with as many PARAMETERS as there may be. */
    private static void wayNumbers() {
        StringBuilder sb = new StringBuilder("A<a,b,c,d>;");
        for (char k = 'B'; k <= 'T'; k++) {
            sb.append(k).append("<a,b,c,d>:").append((char) (k - 1)).append("<a,b,c,d>;");
        }
        BoundTables x = C.table(sb.toString());
        C.due("told(5)", x.told(5), 80);
        for (int p = 0; p < 80; p++) {
            C.due("way from " + p, p < 4 ? x.way(p, p) : x.way(p, p - 4), p < 4 ? 0 : 1);
            C.due("way back to " + p, p < 76 ? x.way(p, p + 4) : x.way(p, 79), 0);
        }
        C.throwsIndex("way(80, 0)", () -> x.way(80, 0));
        C.throwsIndex("way(0, 80)", () -> x.way(0, 80));
        C.throwsIndex("way(-1, 79)", () -> x.way(-1, 79));
        C.throwsIndex("parameter(80, 3)", () -> x.parameter(80, 3));
        C.due("parameter(79, 3)", x.parameter(79, 3), 0);
    }

    /** "0 there is none, 1 there are some, 2 one of them GROWS": whichever of them is told first. */
    private static void waysOfEachSort() {
        BoundTables x = C.table("L<t>;A<a>:L<a>;B<b>:L<L<b>>;C<c> with c:L<c>&L<L<c>>;D<d> with d:L<L<d>>&L<d>;E<e>:L<L<?>>;");
        int[] ways = {1, 1, 2, 2, 2, 0};
        for (int p = 0; p < 6; p++) {
            C.due("way(" + p + ", 0)", x.way(p, 0), p == 0 ? 0 : ways[p]);
            C.due("parameter(" + p + ", 3)", x.parameter(p, 3), 0);
        }
        C.due("told(9)", x.told(9), 0);
        BoundTables y = C.table("A<a>with a:A<a>;");
        C.due("a ROUND that does not grow", y.parameter(0, 3), 0);
        C.due("told(9)", y.told(9), 0);
        BoundTables z = C.table("A<a,b>with a:A<b,?>,b:A<?,A<a,?>>;");
        C.due("way(0, 0)", z.way(0, 0), 1);
        C.due("way(0, 1)", z.way(0, 1), 2);
        C.due("way(1, 0)", z.way(1, 0), 1);
        C.due("way(1, 1)", z.way(1, 1), 0);
        C.due("parameter(0, 3)", z.parameter(0, 3), 1);
        C.due("parameter(1, 3)", z.parameter(1, 3), 1);
    }

    /** Promise 10: "IllegalArgument: another what." */
    private static void toldNumbers() {
        BoundTables x = C.table(TABLE);
        for (int what : new int[] {-1, 10, 11, -2, LEAST, MOST}) {
            C.throwsArgument("told(" + what + ")", () -> x.told(what));
        }
        C.due("told(9)", x.told(9), 0);
        C.due("told(0)", x.told(0), 0);
    }

    /** "0 before" */
    private static void toldBefore() {
        BoundTables x = new BoundTables();
        C.counts("before", x, 0, 0, 0, 0);
        Check.ask(x, "Any<=");
        above(x, "Any above");
        read(x, "A");
        C.counts("behind FAULTS alone", x, 0, 0, 0, 0);
        C.due("told(6)", x.told(6), 0);
    }

    /** "and behind a read() without one" */
    private static void toldBehindRead() {
        BoundTables x = C.table(TABLE);
        C.due("a question", Check.ask(x, "P<?,?> <= L<?:L<?>>"), 1);
        C.counts("behind it", x, 3, 3, 2, 3 + 2);
        C.due("a read", read(x, TABLE), 5);
        C.counts("behind the read", x, 0, 0, 0, 0);
        C.due("a place", above(x, "P<?,?> above L"), 5);
        C.counts("behind it", x, 0, 0, 2, 3 + 2);
        C.due("a read", read(x, TABLE), 5);
        C.counts("behind the read", x, 0, 0, 0, 0);
    }

    private static void toldBehindFaults() {
        BoundTables x = C.table(TABLE);
        C.due("a question", Check.ask(x, "P<?,?> <= L<?:L<?>>"), 1);
        C.due("a read with a FAULT", read(x, "A"), -11);
        C.counts("behind it", x, 3, 3, 2, 5);
        C.due("a question with a FAULT", Check.ask(x, "P<?,?> <= L<?:L<?>>>"), -10 - 19);
        C.counts("behind it", x, 3, 3, 2, 5);
        C.due("a place with a FAULT", above(x, "L<?> above"), -20);
        C.counts("behind it", x, 3, 3, 2, 5);
        C.throwsArgument("ask(3001)", () -> x.ask(3001));
        C.counts("behind it", x, 3, 3, 2, 5);
        C.due("a place", above(x, "Z above P"), 0);
        C.counts("behind a place with none", x, 0, 0, 0, 0);
        C.due("another question", Check.ask(x, "Z<=Z"), 1);
        C.counts("behind it", x, 1, 1, 0, 0);
    }

    /** "what would be too many is not counted" */
    private static void tooManyIsNotCounted() {
        BoundTables x = C.table(TABLE);
        int[] asked = {0, 1, 2, 3, 3};
        int[] answers = {BoundTables.FUEL, BoundTables.FUEL, BoundTables.FUEL, 1, 1};
        for (int fuel = 0; fuel <= 4; fuel++) {
            C.due("ask(" + fuel + ")", Check.fed(x, "P<?,?> <= L<?:L<?>>").ask(fuel), answers[fuel]);
            C.counts("ask(" + fuel + ")", x, asked[fuel], asked[fuel], fuel == 0 ? 0 : 2, fuel == 0 ? 0 : 5);
        }
    }

    /** Promise 11: "0 when there is none" */
    private static void aboveNone() {
        BoundTables x = C.table(TABLE);
        C.due("Z above L", above(x, "Z above L"), 0);
        C.due("told(8)", x.told(8), 0);
        C.due("L<Z> above M", above(x, "L<Z> above M"), 0);
        C.due("L<?> above P", above(x, "L<?> above P"), 0);
        C.due("Any above Z", above(x, "Any above Z"), 0);
        C.due("fault()", x.fault(), 0);
        C.throwsIndex("written(0)", () -> x.written(0));
    }

    /** "(of a PARAMETER there is ANY alone)" */
    private static void aboveOfParameters() {
        BoundTables x = C.table(TABLE);
        C.due("in P:a above L", above(x, "in P:a above L"), 0);
        C.due("in P:a above P", above(x, "in P:a above P"), 0);
        C.due("in P:a above Any", above(x, "in P:a above Any"), 3);
        C.due("what is written", Check.page(x), "Any");
        C.due("in L:L<t> above L", above(x, "in L:L<t> above L"), 4);
        C.due("what is written", Check.page(x), "L<t>");
        C.due("in P:P<b,a> above L", above(x, "in P:P<b,a> above L"), 4);
        C.due("what is written", Check.page(x), "L<b>");
        BoundTables y = C.table("A<A>;");
        C.due("in A:A above A", above(y, "in A:A above A"), 0);
        C.due("in A:A above Any", above(y, "in A:A above Any"), 3);
    }

    /** "(not, if NAME is the TYPE's own class, or Any, or nothing is above)" */
    private static void aboveMakesNoVariables() {
        BoundTables x = C.table(TABLE);
        for (String place : new String[] {"P<?,?> above P", "P<?,?> above Any", "P<?,?> above M", "M<?^Z> above P"}) {
            above(x, place);
            C.counts(place, x, 0, 0, 0, 0);
            C.throwsIndex("variable(0, 0)", () -> x.variable(0, 0));
        }
        C.due("P<?,?^Z> above P", above(x, "P<?,?^Z> above P"), 8);
        C.due("what is written", Check.page(x), "P<?,?^Z>");
        C.due("P<?,?> above Z", above(x, "P<?,?> above Z"), 1);
        C.counts("P<?,?> above Z", x, 0, 0, 2, 3 + 1);
    }

    /** "(what was written stays then, as with 0 and FULL)" */
    private static void whatWasWrittenStays() {
        BoundTables x = C.table(TABLE);
        C.due("M<?> above L", above(x, "M<?> above L"), 8);
        for (String place : new String[] {"Z above", "Z above Y", "#", "", "Z above L", "in P:a above Z"}) {
            above(x, place);
            C.due("behind " + place, Check.page(x), "L<L<#0>>");
        }
        C.due("a question", Check.ask(x, "M<?> <= L<?>"), 1);
        C.due("behind a question", Check.page(x), "L<L<#0>>");
        C.due("none such", x.variable(0, 7), 0);
        C.due("behind none such", Check.page(x), "L<L<#0>>");
        C.due("a BOUND", x.variable(0, 0), 5);
        C.due("in its place", Check.page(x), "L<#0>");
        C.throwsIndex("written(5)", () -> x.written(5));
        C.due("a read", read(x, "A;"), 2);
        C.due("behind a read", Check.page(x), "L<#0>");
        C.due("a place", above(x, "A above Any"), 3);
        C.due("in its place", Check.page(x), "Any");
    }

    /** Promise 12: which v there are. */
    private static void variableNumbers() {
        BoundTables x = C.table(TABLE);
        C.throwsIndex("before", () -> x.variable(0, 0));
        C.due("a question", Check.ask(x, "P<?,?> <= L<?>"), 1);
        for (int v : new int[] {-1, 2, 3, 299, 300, 301, LEAST, MOST}) {
            C.throwsIndex("variable(" + v + ", 0)", () -> x.variable(v, 0));
            C.throwsIndex("variable(" + v + ", -1)", () -> x.variable(v, -1));
            C.throwsIndex("variable(" + v + ", 9)", () -> x.variable(v, 9));
        }
        C.due("the last", x.variable(1, 0), 3);
        C.due("the first", x.variable(0, 0), 5);
    }

    /** "BOUND what, from 0 on, or its FLOOR (what = NONE)"; "0 when there is none such"; "ANY is BOUND 0" */
    private static void variableTypes() {
        String table = "Z;A<a,b,c,d> with a:Z&A<a,b,c,d>,b:Z,d:Z&Z;B<a,b,c,d>:A<a,b,c,d>;";
        BoundTables w = C.table(table);
        C.due("?", above(w, "B<?,?,?,?> above A"), 14);
        types(w, 0, "Any", null, null, null);
        BoundTables x = C.table(table);
        C.due("?:", Check.ask(x, "A<?:Any,?:Z,?:A<?,?,?,?>,?^Z> <= Z"), 0);
        types(x, 0, "Any", "Z", "A<#0,#1,#2,#3>", null);
        types(x, 1, "Z", "Z", null, null);
        types(x, 2, "A<?,?,?,?>", null, null, null);
        types(x, 3, "Z", "Z", null, "Z");
        BoundTables y = C.table(table);
        C.due("?^", Check.ask(y, "A<Z,?^Any,?^Z,?> <= Z"), 0);
        types(y, 0, "Z", null, null, "Any");
        types(y, 1, "Any", null, null, "Z");
        types(y, 2, "Z", "Z", null, null);
    }

    private static void types(BoundTables x, int v, String first, String second, String third, String floor) {
        String[] due = {floor, first, second, third};
        String before = "";
        for (int what = -1; what <= 2; what++) {
            String type = due[what + 1];
            C.due("variable(" + v + ", " + what + ")", x.variable(v, what), type == null ? 0 : type.length());
            if (type != null || what > -1) {
                before = type == null ? before : type;
                C.due("variable(" + v + ", " + what + ")", Check.page(x), before);
            }
        }
        for (int what : new int[] {3, 4, 1000, -2, -3, LEAST, MOST, MOST / 3 + 1}) {
            C.due("variable(" + v + ", " + what + ")", x.variable(v, what), 0);
            C.due("what was written stays", Check.page(x), before);
        }
    }

    /** "of the latest ask() or above() without a FAULT (none behind a read())" */
    private static void variablesOfTheLatest() {
        BoundTables x = C.table(TABLE);
        C.due("a question", Check.ask(x, "L<?^Z> <= L<?:Any>"), 1);
        C.due("its FLOOR", x.variable(0, -1), 1);
        Check.ask(x, "L<?> <=");
        above(x, "M<?> above");
        read(x, "A");
        C.due("its FLOOR behind FAULTS", x.variable(0, -1), 1);
        C.due("a place", above(x, "M<?> above L"), 8);
        C.due("told(2)", x.told(2), 1);
        C.due("no FLOOR", x.variable(0, -1), 0);
        C.due("its BOUND", x.variable(0, 0), 5);
        C.due("a question without", Check.ask(x, "Z<=Z"), 1);
        C.throwsIndex("none of it", () -> x.variable(0, 0));
        C.due("a question", Check.ask(x, "L<?^Z> <= L<?:Any>"), 1);
        C.due("a read", read(x, TABLE), 5);
        C.throwsIndex("none behind a read()", () -> x.variable(0, 0));
        C.due("told(2)", x.told(2), 0);
        C.due("a question without FUEL", Check.fed(x, "L<?> <= L<?:Any>").ask(0), BoundTables.FUEL);
        C.throwsIndex("none of it", () -> x.variable(0, 0));
        C.due("a question with some", Check.fed(x, "L<?> <= L<?:Any>").ask(1), BoundTables.FUEL);
        C.due("its BOUND", x.variable(0, 0), 3);
    }

    /** "none has BOUNDS yet when FULL came before": 297 are made, then three of four. */
    private static void boundsWhenFull() {
        BoundTables x = C.table("Y;Z;A<a,k> with a:A<?,Y>&A<?,Z>;Q<a,b,c,d> with a:Q<a,b,c,d>;W<a,b,c,d>;");
        String deep = "Any";
        for (int i = 0; i < 6; i++) {
            deep = "A<?:" + deep + ",Z>";
        }
        String shallow = "A<?:A<?:A<?:A<?:A<?:Any,Z>,Z>,Z>,Z>,Z>";
        String s = "W<A<?,Z>,A<?,Z>,A<?,Z>,W<A<?,Z>,A<?,Z>,A<?,Z>,";
        String t = "W<?:" + deep + ",?:" + deep + ",?:" + deep + ",?:W<?:" + shallow + ",?:" + shallow + ",?:" + shallow + ",";
        C.due("282 of them", Check.ask(x, s + "Z>><=" + t + "?>>"), 1);
        C.due("told(2)", x.told(2), 3 * 63 + 3 * 31);
        String full = s + "W<A<?,Z>,A<?,Z>,A<?,Z>,Q<?,?,?^Z,?>>>><=" + t + "?:W<?:A<?:A<?:A<?:Any,Z>,Z>,Z>,?:A<?:A<?:A<?:Any,Z>,Z>,Z>,?:A<?:Any,Z>,?:Z>>>";
        C.due("297 and three", Check.ask(x, full), BoundTables.FULL);
        C.due("told(2)", x.told(2), 300);
        C.due("BOUND 0 of 296", x.variable(296, 0), 6);
        C.due("BOUND 1 of 296", x.variable(296, 1), 6);
        for (int v = 297; v < 300; v++) {
            for (int what = 0; what <= 2; what++) {
                C.due("variable(" + v + ", " + what + ")", x.variable(v, what), 0);
            }
        }
        C.due("what was written stays", Check.page(x), "A<?,Z>");
        C.throwsIndex("variable(300, 0)", () -> x.variable(300, 0));
    }

    /** Promise 13: which bytes there are. */
    private static void writtenNumbers() {
        BoundTables x = C.table(TABLE);
        for (int i : new int[] {-1, 0, 1, LEAST, MOST}) {
            C.throwsIndex("written(" + i + ") before", () -> x.written(i));
        }
        C.due("a place", above(x, "Z above Z"), 1);
        for (int i : new int[] {-1, 1, 2, 999, 1000, LEAST, MOST}) {
            C.throwsIndex("written(" + i + ")", () -> x.written(i));
        }
        C.due("written(0)", x.written(0), 'Z');
    }

    /** "NAMES, < > and , ? ?: ?^ without blanks; a NEW variable as # and its number" */
    private static void writtenForms() {
        BoundTables x = C.table("Z;Abcdefgh<a1,b>;Q<x>:Abcdefgh<Abcdefgh<?,x>,Abcdefgh<?:x,?^x>>;");
        above(x, "in Abcdefgh : Abcdefgh < ? : a1 ,\n ? ^ Abcdefgh < ? , b > > above Abcdefgh");
        C.due("a page", Check.page(x), "Abcdefgh<?:a1,?^Abcdefgh<?,b>>");
        above(x, "Q < ? ^ Z > above Abcdefgh");
        C.due("a page", Check.page(x), "Abcdefgh<Abcdefgh<?,#0>,Abcdefgh<?:#0,?^#0>>");
        above(x, "Q<Abcdefgh< ? : Z , Z >> above Abcdefgh");
        C.due("a page", Check.page(x),
                "Abcdefgh<Abcdefgh<?,Abcdefgh<?:Z,Z>>,Abcdefgh<?:Abcdefgh<?:Z,Z>,?^Abcdefgh<?:Z,Z>>>");
    }

    /** Numbers of one, two and three figures. */
    private static void numbersOfVariables() {
        BoundTables x = C.table("Z;A<x,y> with x:A<?,?>&A<?,?>,y:A<x,y>;");
        String nest = "Z";
        for (int i = 0; i < 7; i++) {
            nest = "A<?:" + nest + ",?>";
        }
        C.due("a question", Check.ask(x, "A<?,?><=" + nest), BoundTables.FULL);
        for (int v : new int[] {1, 3, 9, 11, 19, 21, 89, 99, 101, 109, 111, 199, 201, 211, 289, 299}) {
            String due = "A<#" + (v - 1) + ",#" + v + ">";
            C.due("variable(" + v + ", 0)", x.variable(v, 0), due.length());
            C.due("variable(" + v + ", 0)", Check.page(x), due);
        }
    }

    /** "of more than 1000 bytes the first ones alone are there, and count": TYPES of 999 to 1002. */
    private static void aThousandBytes() {
        String five = "P<Z,Z,Z,Z>";
        String twenty1 = "P<" + five + "," + five + "," + five + "," + five + ">";
        String b = "P<" + twenty1 + "," + twenty1 + "," + twenty1 + "," + twenty1 + ">";
        String a = "P<" + b + "," + b + ",Z,Z>";
        for (int n = 1; n <= 4; n++) {
            String c = "P<P<Zz,Zz,Z,Z>,Zzzz,Zzzz," + "Zzzz".substring(0, n) + ">";
            String whole = "P<" + a + "," + a + "," + b + "," + c + ">";
            C.due("its bytes", whole.length(), 998 + n);
            BoundTables x = C.table("Z;Zz;Zzz;Zzzz;P<a,b,c,d>;D<a,b,c>:P<a,a,b,c>;");
            int due = Math.min(1000, 998 + n);
            C.due("a place", above(x, "D<" + a + "," + b + "," + c + "> above P"), due);
            C.longPage("a page of " + (998 + n), x, whole.substring(0, due));
            C.throwsIndex("one more", () -> x.written(due));
            C.due("a short one", above(x, "Z above Any"), 3);
            C.throwsIndex("written(3)", () -> x.written(3));
        }
    }

    /** Promise 14: "All is as at first." */
    private static void cleared() {
        BoundTables x = C.table(TABLE);
        String fresh = state(new BoundTables());
        Check.ask(x, "P<?,?> <= L<?:L<?>>");
        x.variable(0, 0);
        Check.ask(x, "Z<=Y");
        Check.fed(x, " ".repeat(800));
        x.clear();
        C.due("all", state(x), fresh);
        C.due("fault()", x.fault(), 0);
        C.throwsIndex("variable(0, 0)", () -> x.variable(0, 0));
        C.throwsIndex("written(0)", () -> x.written(0));
        C.throwsIndex("cls(1, 0)", () -> x.cls(1, 0));
        C.throwsIndex("parameter(0, 0)", () -> x.parameter(0, 0));
        C.throwsIndex("way(0, 0)", () -> x.way(0, 0));
        C.askFault(x, "!Z<=Any", 4);
        x.clear();
        C.due("the tape", x.feed('A', 1), 1);
        x.clear();
        C.due("nothing on it", x.read(), -10);
        x.clear();
        C.due("fault()", x.fault(), 0);
        C.due("the table once more", read(x, TABLE), 5);
        C.due("all of it", state(x), state(C.table(TABLE)));
    }

    /** "An object is used for at most 512 calls": the largest reads in turn with others. */
    private static void manyCalls() {
        BoundTables x = new BoundTables();
        for (int i = 0; i < 4; i++) {
            Check.fed(x, "P<a,b,c,d>;");
            for (char k = 'B'; k <= 'O'; k++) {
                Check.fed(x, k + "<a>:" + (k == 'B' ? "P<P<a,a,a,a>,P<a,a,a,a>,P<a,a,a,a>,P<a,a,a,a>>" : (char) (k - 1) + "<a>") + ";");
            }
            C.due("a large table", x.read(), 16);
            C.due("what is above", above(x, "O<Any> above P"), 78);
            C.due("told(3)", x.told(3), 21);
            C.due("a small table", read(x, "A;"), 2);
        }
    }
}
