/**
 * Where the document can be read in more than one way: what was chosen, with the sentences that it was
 * held against. README.md has the list.
 */
public final class ReadingTest {
    private static final Check C = new Check("ReadingTest");
    private static final int FULL = BoundTables.FULL;
    private static final int NONE = BoundTables.NONE;

    public static void main(String[] args) {
        floorBeforeThe301st();
        floorWhenNodesAreTooMany();
        boundsOneByOne();
        aboveAny();
        roundThroughOneTwice();
        classBeforeWhat();
        readWithAFault();
        writtenStays();
        variablesBeforeTheClassAbove();
        parameterWithArgs();
        C.end();
    }

    private static void variable(BoundTables x, int v, int what, String type) {
        C.due("variable(" + v + ", " + what + ")", x.variable(v, what), type.length());
        C.due("variable(" + v + ", " + what + ")", Check.page(x), type);
    }

    private static void noVariable(BoundTables x, int v, int what) {
        C.due("variable(" + v + ", " + what + ")", x.variable(v, what), 0);
    }

    /** A below it makes 2, 6, 14, .. NEW variables. */
    private static String pairs(int levels) {
        return levels == 0 ? "Any" : "A<?:" + pairs(levels - 1) + ",?,Z>";
    }

    /** B below it makes 1, 3, 7, .. NEW variables. */
    private static String ones(int levels) {
        return levels == 0 ? "Any" : "B<?:" + ones(levels - 1) + ",Z>";
    }

    /**
     * "a 301st is FULL before any BOUND", "none has BOUNDS yet when FULL came before": of BOUNDS alone,
     * which a FLOOR is none of. 297 are made, then three of four.
     */
    private static void floorBeforeThe301st() {
        BoundTables x = C.table("Y;Z;P<a,b,c,d>;A<x,y,k> with x:A<?,?,Y>&A<?,?,Z>;B<x,k> with x:B<?,Y>&B<?,Z>;"
                + "Q<a,b,c,d> with a:Z,b:Z;");
        String s = "P<A<?,?,Z>,A<?,?,Z>,P<A<?,?,Z>,B<?,Z>,Z,Q<?^Y,?:Y,?^P<?,Z,Z,Z>,?^Z>>,Z>";
        String t = "P<?:" + pairs(6) + ",?:" + pairs(6) + ",?:P<?:" + pairs(4) + ",?:" + ones(4) + ",?,?:Q<?,?,?,Z>>,?>";
        C.due("a question", Check.ask(x, s + "<=" + t), FULL);
        C.due("told(2)", x.told(2), 300);
        variable(x, 297, NONE, "Y");
        noVariable(x, 298, NONE);
        variable(x, 299, NONE, "P<?,Z,Z,Z>");
        for (int v = 297; v < 300; v++) {
            noVariable(x, v, 0);
        }
        C.throwsIndex("variable(300, -1)", () -> x.variable(300, NONE));
    }

    private static String trees(int levels) {
        return levels == 0 ? "Any" : "B<?:" + trees(levels - 1) + ",Z,?>";
    }

    private static final String BIG = Check.typeOf(117);
    private static final String TABLE = "Y;Z;L<t>;P<a,b,c,d>;B<x,k,j> with x:B<?,Y," + BIG + ">&B<?,Z," + BIG + ">;";

    /** A question of which all but the last ARG takes 6000 NODES for 25 NEW variables. */
    private static int behind6000(BoundTables x, String last, String lastOfT) {
        return Check.ask(x, "P<B<?,Z,Z>,B<?,Z,Z>,B<?,Z,Z>," + last + "><=P<?:" + trees(4) + ",?:" + trees(3) + ",?:"
                + trees(2) + "," + lastOfT + ">");
    }

    /** What is behind ?: is no PARAMETER'S BOUND, is not counted, and comes before those. */
    private static void floorWhenNodesAreTooMany() {
        BoundTables x = C.table(TABLE + "E<d,e,f> with d:Z,e:Z;");
        C.due("a question", behind6000(x, "E<?:Y,?^Y,?^L<Z>>", "?:E<?,?,Z>"), FULL);
        C.due("told(2)", x.told(2), 28);
        C.due("told(3)", x.told(3), 6000);
        variable(x, 25, 0, "Y");
        noVariable(x, 25, 1);
        noVariable(x, 25, NONE);
        variable(x, 26, NONE, "Y");
        noVariable(x, 26, 0);
        variable(x, 27, NONE, "L<Z>");
        noVariable(x, 27, 0);
        C.due("without BOUNDS to count", behind6000(x, "E<Y,Z,?>", "?:E<?,?,Z>"), 0);
        C.due("told(2)", x.told(2), 26);
        variable(x, 25, 0, "Any");
    }

    /**
     * "each time as many as it has as it is written", "what would be too many is not counted": a BOUND that
     * fits is counted, and is there, before one that does not. 25 times 117 + 122 are 5975.
     */
    private static void boundsOneByOne() {
        String table = "Y;Z;L<t>;P<a,b,c,d>;B<x,k,j> with x:B<?,Y," + Check.typeOf(114) + ">&B<?,Z," + Check.typeOf(119) + ">;";
        String first = Check.typeOf(20);
        BoundTables x = C.table(table + "E<d,e> with d:" + first + "&" + Check.typeOf(5) + ";");
        C.due("6000 NODES", behind6000(x, "E<?:Y,?^Z>", "?:E<?:Any,?>"), 1);
        C.due("told(3)", x.told(3), 6000);
        variable(x, 25, 2, Check.typeOf(5));
        BoundTables y = C.table(table + "E<d,e> with d:" + first + "&" + Check.typeOf(6) + ";");
        C.due("one more", behind6000(y, "E<?:Y,?^Z>", "?:E<?:Any,?>"), FULL);
        C.due("told(2)", y.told(2), 27);
        C.due("told(3)", y.told(3), 5995);
        variable(y, 25, 0, "Y");
        variable(y, 25, 1, first);
        noVariable(y, 25, 2);
        noVariable(y, 26, 0);
        variable(y, 26, NONE, "Z");
    }

    /**
     * "those of what is ABOVE a class when the TYPE ABOVE S is made of it": ANY is made of nothing, and
     * with Any no ARGS become NEW variables.
     */
    private static void aboveAny() {
        BoundTables x = C.table("Z;L<t> with t:Z;M<t>:L<t>;");
        for (String type : new String[] {"Z", "L<?>", "M<?:Z>", "Any", "in L:t", "in M:M<t>"}) {
            C.due("M<?> above L", Check.fed(x, "M<?> above L").above(), 5);
            C.counts("M<?>", x, 0, 0, 1, 2);
            C.due(type + " above Any", Check.fed(x, type + " above Any").above(), 3);
            C.due("what is written", Check.page(x), "Any");
            C.counts(type, x, 0, 0, 0, 0);
        }
    }

    /**
     * "A ROUND leads by ways from a PARAMETER to itself": p to q, q to r and back, q to p; only the way
     * from q to r GROWS, and s, which leads to p alone, lies on none.
     */
    private static void roundThroughOneTwice() {
        BoundTables x = C.table("Z;L<t>;A<p,q,r,s> with p:A<q,p,Z,Z>&A<s,r,L<q>,Z>;");
        C.due("way(q, p)", x.way(2, 1), 1);
        C.due("way(p, q)", x.way(1, 2), 1);
        C.due("way(q, r)", x.way(2, 3), 2);
        C.due("way(r, q)", x.way(3, 2), 1);
        C.due("way(s, p)", x.way(4, 1), 1);
        for (int p = 0; p < 5; p++) {
            C.due("parameter(" + p + ", 3)", x.parameter(p, 3), p == 0 || p == 4 ? 0 : 1);
        }
        C.due("told(9)", x.told(9), 1);
    }

    /** The face names IndexOutOfBounds first; of feed's two IllegalArgument. */
    private static void classBeforeWhat() {
        BoundTables x = C.table("A<a>;");
        for (int what : new int[] {-1, 4, 5, Integer.MIN_VALUE, Integer.MAX_VALUE}) {
            C.throwsIndex("cls(2, " + what + ")", () -> x.cls(2, what));
            C.throwsIndex("cls(-1, " + what + ")", () -> x.cls(-1, what));
            C.throwsIndex("parameter(1, " + what + ")", () -> x.parameter(1, what));
            C.throwsIndex("parameter(-1, " + what + ")", () -> x.parameter(-1, what));
        }
        Check.fed(x, " ".repeat(800));
        C.throwsArgument("feed(0, 9) on a full tape", () -> x.feed(0, 9));
        C.throwsArgument("feed(0, 0) on a full tape", () -> x.feed(0, 0));
        C.throwsFull("feed(0, 1) on a full tape", () -> x.feed(0, 1));
    }

    /** "0 before, and behind a read() without one"; "-10 less the place of a FAULT: nothing changes". */
    private static void readWithAFault() {
        BoundTables x = C.table("Z;L<t> with t:Z;M<t> with t:Z:L<t>;");
        C.due("a question", Check.ask(x, "M<?^Z> <= L<?:Z>"), 1);
        C.counts("a question", x, 3, 3, 1, 3);
        C.due("a read with a FAULT", Check.fed(x, "Z;Y:;").read(), -14);
        C.due("fault()", x.fault(), 2);
        C.due("told(7)", x.told(7), 0);
        C.counts("behind it", x, 3, 3, 1, 3);
        variable(x, 0, 0, "Z");
        variable(x, 0, NONE, "Z");
        C.due("a read", Check.fed(x, "Z;").read(), 2);
        C.counts("behind a read", x, 0, 0, 0, 0);
        C.throwsIndex("variable(0, -1)", () -> x.variable(0, NONE));
    }

    /** "Byte i of what was written latest": only what is written next, or clear(), takes it away. */
    private static void writtenStays() {
        BoundTables x = C.table("Z;L<t>;");
        C.due("a place", Check.fed(x, "L<Z> above L").above(), 4);
        C.due("a place with none", Check.fed(x, "L<Z> above Z").above(), 0);
        C.due("a question", Check.ask(x, "L<?> <= L<?:Z>"), 0);
        C.due("no FLOOR", x.variable(0, NONE), 0);
        C.due("a place with a FAULT", Check.fed(x, "L<Z> above").above(), -20);
        C.due("a read with a FAULT", Check.fed(x, "L").read(), -11);
        C.due("a read", Check.fed(x, "Y;").read(), 2);
        C.due("what was written", Check.page(x), "L<Z>");
        x.clear();
        C.due("told(8)", x.told(8), 0);
    }

    /** "the ARGS of S that are ? become NEW variables .. With them, the TYPE .. : no, if there is none." */
    private static void variablesBeforeTheClassAbove() {
        BoundTables x = C.table("Z;L<t> with t:L<t>;");
        C.due("a question", Check.ask(x, "L<?> <= Z"), 0);
        C.counts("a question", x, 1, 1, 1, 2);
        variable(x, 0, 0, "L<#0>");
        C.due("a place: \"not, if .. nothing is above\"", Check.fed(x, "L<?> above Z").above(), 0);
        C.counts("a place", x, 0, 0, 0, 0);
    }

    /** "FAULTS, the first from the left": the NAME of a PARAMETER (7) stands before its < (5). */
    private static void parameterWithArgs() {
        C.readFault("Z;A<a,b> with a:!b<Z>;", 7);
        C.readFault("Z;A<a,b> with a:Z&!a<;", 7);
        C.readFault("Z;A<a,b>:!a<Z>;", 7);
        C.readFault("Z;L<t>;A<a,b> with a:L<b!<Z>>;", 5);
        C.readFault("Z;L<t>;A<a,b>:L<b!<Z>>;", 5);
        C.readFault("Z;L<t>;A<a,b>:L<b!<=Z>>;", 2);
    }
}
