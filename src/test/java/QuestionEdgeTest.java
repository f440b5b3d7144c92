/** The sentences of part 3, QUESTIONS, and of promise 9 that name an edge, one method for each. */
public final class QuestionEdgeTest {
    private static final Check C = new Check("QuestionEdgeTest");
    private static final int DEEP = BoundTables.DEEP;
    private static final int FUEL = BoundTables.FUEL;
    private static final int FULL = BoundTables.FULL;

    public static void main(String[] args) {
        fuelNumbers();
        theTapeStays();
        fuelJustEnough();
        mostFuel();
        sameAtOnce();
        anyAtOnce();
        inFortyOthers();
        noInFortyOthers();
        fuelFirst();
        variablesWithoutBounds();
        boundsInOrder();
        argsInOrder();
        floorFirst();
        variableAbove();
        allMadeBeforeOneIsBound();
        variablesWithoutAClassAbove();
        numberedFrom0();
        most300();
        fullBeforeAnyBound();
        most6000();
        most6000OfBounds();
        nodesAsWritten();
        C.end();
    }

    private static void ask(BoundTables x, String question, int fuel, int answer) {
        C.due(question + " with fuel " + fuel, Check.fed(x, question).ask(fuel), answer);
        C.due(question + ": fault()", x.fault(), 0);
    }

    /** "IllegalArgument: fuel is not 0 .. 3000" */
    private static void fuelNumbers() {
        BoundTables x = new BoundTables();
        for (int fuel : new int[] {-1, -2, 3001, 3002, 30000, Integer.MIN_VALUE, Integer.MAX_VALUE}) {
            C.throwsArgument("ask(" + fuel + ") of nothing", () -> x.ask(fuel));
            C.due("fault()", x.fault(), 0);
        }
        ask(x, "Any<=Any", 0, FUEL);
        ask(x, "Any<=Any", 1, 1);
        ask(x, "Any<=Any", 3000, 1);
    }

    /** "(the tape stays)" */
    private static void theTapeStays() {
        BoundTables x = C.table("A<t>;");
        ask(x, "A<?><=A<?:Any>", 3000, 1);
        Check.fed(x, "A<?><");
        C.throwsArgument("ask(-1)", () -> x.ask(-1));
        C.due("told(7)", x.told(7), 5);
        C.counts("as before", x, 2, 2, 1, 0);
        C.due("a variable as before", x.variable(0, 0), 3);
        Check.fed(x, "=Any");
        C.throwsArgument("ask(3001)", () -> x.ask(3001));
        C.due("told(7)", x.told(7), 9);
        C.due("both parts", x.ask(1), 1);
        C.counts("of the new one", x, 1, 1, 0, 0);
    }

    /** "It ends with FUEL, if one more than told would be asked" */
    private static void fuelJustEnough() {
        BoundTables x = C.table("N;I:N;L<t>;B<t> with t:I&L<t>;");
        ask(x, "L<L<I>><=L<?:L<?:N>>", 3, 1);
        C.counts("just enough", x, 3, 3, 0, 1);
        ask(x, "L<L<I>><=L<?:L<?:N>>", 2, FUEL);
        C.counts("one too few", x, 2, 2, 0, 0);
        ask(x, "L<L<I>><=L<?:L<?:N>>", 1, FUEL);
        C.counts("two too few", x, 1, 1, 0, 0);
        ask(x, "in B:t<=L<t>", 3, 1);
        C.counts("yes with the second BOUND", x, 3, 2, 0, 0);
        ask(x, "in B:t<=L<t>", 2, FUEL);
        C.counts("none for it", x, 2, 2, 0, 0);
        ask(x, "in B:t<=L<?^t>", 4, 1);
        ask(x, "in B:t<=L<?^t>", 3, FUEL);
        ask(x, "N<=I", 1, 0);
    }

    private static String dear(int levels) {
        String in = levels > 1 ? dear(levels - 1) : "Any";
        return "P<?:" + in + ",?:" + in + ",Z>";
    }

    /** A question of 1 + 2 (1 + 2 n) questions for each level; 3000 of them are the most. */
    private static void mostFuel() {
        BoundTables x = C.table("Y;Z;P<a,b,c> with a:P<b,b,Y>&P<b,b,Z>,b:P<a,a,Y>&P<a,a,Z>;");
        int due = 1;
        for (int levels = 1; levels <= 4; levels++) {
            due = 1 + 2 * (1 + 2 * due);
            ask(x, "in P:a<=" + dear(levels), 3000, 1);
            C.counts("level " + levels, x, due, 2 * levels + 1, 0, 0);
            ask(x, "in P:a<=" + dear(levels), due, 1);
            ask(x, "in P:b<=" + dear(levels), due - 1, FUEL);
            C.counts("one too few", x, due - 1, 2 * levels + 1, 0, 0);
        }
        BoundTables y = C.table("Y;Z;P<a,b,c> with a:P<b,b,Y>&P<b,b,Z>,b:P<a,a,Y>&P<a,a,Z>;");
        ask(y, "in P:a<=P<?:" + dear(5) + ",?:" + dear(4) + ",Z>", 3000, FUEL);
        C.due("told(0)", y.told(0), 3000);
        ask(y, "in P:a<=P<?:" + dear(5) + ",?:" + dear(4) + ",Z>", 2999, FUEL);
        C.due("told(0)", y.told(0), 2999);
        exactly3000();
    }

    private static String cheap(int levels) {
        return levels == 0 ? "Any" : "R<?:" + cheap(levels - 1) + ",Z>";
    }

    /** 1 + 2047 + twice 253, 1 + thrice 125, 1 + 61 + 1 + 1 and 1 + 5 questions. */
    private static void exactly3000() {
        String table = "Y;Z;P<a,b,c>;R<r,k>;M<a,b,c,d>;"
                + "K<a,b,r> with a:P<b,b,Y>&P<b,b,Z>,b:P<a,a,Y>&P<a,a,Z>,r:R<r,Y>&R<r,Z>;";
        String question = "in K:M<a,r,r,M<r,r,r,M<r,M<r,Z,Z,Z>,Z,Z>>><=M<?:" + dear(5) + ",?:" + cheap(6) + ",?:" + cheap(6) + ",?:M<?:"
                + cheap(5) + ",?:" + cheap(5) + ",?:" + cheap(5) + ",?:M<?:" + cheap(4) + ",?:M<?:" + cheap(1)
                + ",?,?,?>,?:Any,?:Any>>>";
        BoundTables x = C.table(table);
        ask(x, question, 3000, 1);
        C.due("told(0)", x.told(0), 3000);
        ask(x, question, 2999, FUEL);
        C.due("told(0)", x.told(0), 2999);
        BoundTables y = C.table(table);
        ask(y, question.replace("Z,Z,Z>", "Y,Z,Z>").replace(",?,?,?>", ",?:Y,?,?>"), 3000, FUEL);
        C.due("told(0)", y.told(0), 3000);
    }

    /** "Yes at once, if both are the same (.. a ? by its sort and what binds it; the same variable)" */
    private static void sameAtOnce() {
        BoundTables x = C.table("Z;L<t>;P<a,b> with a:L<a>;");
        for (String type : new String[] {"Z", "L<Z>", "L<?>", "L<?:Z>", "L<?^Z>", "P<?:L<?^L<?>>,L<?:Any>>"}) {
            ask(x, type + "<=" + type, 1, 1);
            C.counts(type, x, 1, 1, 0, 0);
        }
        ask(x, "in P:a<=a", 1, 1);
        C.counts("a", x, 1, 1, 0, 0);
        ask(x, "in P:P<a,?:b><=P<a,?:b>", 1, 1);
        C.counts("P<a,?:b>", x, 1, 1, 0, 0);
        ask(x, "L<L<?>><=L<L<?:Any>>", 3000, 0);
        ask(x, "L<L<?:Z>><=L<L<?^Z>>", 3000, 0);
        ask(x, "L<L<?:Z>><=L<L<?:Any>>", 3000, 0);
        ask(x, "L<L<?:Z>><=L<L<Z>>", 3000, 0);
        ask(x, "in P:L<a><=L<b>", 3000, 0);
        C.counts("L<a>", x, 1, 1, 0, 0);
    }

    /** "or T is ANY" */
    private static void anyAtOnce() {
        BoundTables x = C.table("L<t>;P<a,Any>;");
        for (String question : new String[] {"L<?><=Any", "L<L<?:Any>><=Any", "in L:t<=Any", "Any<=Any", "in L:L<?^t><=Any"}) {
            ask(x, question, 1, 1);
            C.counts(question, x, 1, 1, 0, 0);
        }
        ask(x, "in P:L<?><=Any", 3000, 0);
        C.counts("a PARAMETER of its name", x, 1, 1, 0, 0);
        ask(x, "in P:Any<=Any", 1, 1);
    }

    private static String deep(int levels, String leaf) {
        return levels == 0 ? leaf : "L<?:" + deep(levels - 1, leaf) + ">";
    }

    /** W<v> has N<..> above it with v in 18 L<?: ..>, and each of these takes two questions of a's. */
    private static BoundTables tower() {
        return C.table("Z;L<e>;N<z>;M<m>;A<a> with a:L<a>;X<x>:N<" + deep(6, "x") + ">;Y<y>:X<" + deep(6, "y") + ">;W<w>:Y<"
                + deep(6, "w") + ">;");
    }

    /** "with DEEP, if one in 40 others would be": the 40th, in 39 others, is asked. */
    private static void inFortyOthers() {
        int[] levels = {18, 19, 19, 20};
        String[] leaf = {"Any", "Any", "Z", "Any"};
        int[] answers = {1, 1, DEEP, DEEP};
        int[] asked = {38, 40, 40, 40};
        for (int i = 0; i < levels.length; i++) {
            BoundTables x = tower();
            ask(x, "in A:W<" + behind(levels[i] - 18, leaf[i]) + "><=N<?^a>", 3000, answers[i]);
            C.counts("with " + levels[i], x, asked[i], asked[i], 0, 1 + 18 * 2 + 1);
        }
    }

    private static String behind(int levels, String leaf) {
        return levels == 0 ? leaf : deep(levels, leaf);
    }

    private static void noInFortyOthers() {
        BoundTables x = tower();
        ask(x, "in A:M<W<Z>><=M<?:N<?^a>>", 3000, 0);
        C.counts("no at the 40th", x, 40, 40, 0, 38);
        BoundTables y = tower();
        ask(y, "in A:M<W<L<?>>><=M<?:N<?^a>>", 3000, 1);
        C.counts("yes at the 40th", y, 40, 40, 0, 38);
        BoundTables z = tower();
        ask(z, "in A:M<M<W<Z>>><=M<?:M<?:N<?^a>>>", 3000, DEEP);
        C.counts("one more around it", z, 40, 40, 0, 38);
    }

    /** "(both looked at before it is asked, FUEL first)" */
    private static void fuelFirst() {
        BoundTables x = C.table("Z;N<z>;C<x>:N<N<?^C<C<x>>>>;");
        int[] fuels = {39, 40, 41, 42, 3000};
        int[] answers = {FUEL, FUEL, DEEP, DEEP, DEEP};
        for (int i = 0; i < fuels.length; i++) {
            ask(x, "C<Z><=N<?^C<Z>>", fuels[i], answers[i]);
            int due = Math.min(40, fuels[i]);
            C.counts("fuel " + fuels[i], x, due, due, 0, 6 * due);
        }
    }

    /** "BOUNDS as told (ANY, if it has none)"; "(ANY if there are none at all)" */
    private static void variablesWithoutBounds() {
        BoundTables x = C.table("Z;L<t>;B<t> with t:Z;");
        ask(x, "in L:t<=Z", 3000, 0);
        C.counts("a PARAMETER", x, 2, 2, 0, 0);
        ask(x, "L<?><=L<?:Z>", 3000, 0);
        C.counts("?", x, 3, 3, 1, 0);
        ask(x, "L<?:Z><=L<?:L<?>>", 3000, 0);
        C.counts("?:", x, 3, 3, 1, 0);
        ask(x, "L<?^Z><=L<?:Z>", 3000, 0);
        C.counts("?^", x, 3, 3, 1, 0);
        ask(x, "B<?><=B<?:L<?>>", 3000, 0);
        C.counts("? with a BOUND", x, 3, 3, 1, 1);
        ask(x, "B<?:L<Z>><=B<?:L<?>>", 3000, 1);
        C.counts("?: with a BOUND", x, 3, 3, 1, 1);
        ask(x, "B<?:Any><=B<?:L<?>>", 3000, 0);
        C.counts("?:Any with a BOUND", x, 4, 3, 1, 1);
    }

    /** "each of its BOUNDS below T, in order: yes with the first that is; else no" */
    private static void boundsInOrder() {
        BoundTables x = C.table("Y;Z;W;B<t> with t:Y&Z;");
        ask(x, "in B:t<=Y", 3000, 1);
        C.counts("the first", x, 2, 2, 0, 0);
        ask(x, "in B:t<=Z", 3000, 1);
        C.counts("the second", x, 3, 2, 0, 0);
        ask(x, "in B:t<=W", 3000, 0);
        C.counts("none", x, 3, 2, 0, 0);
        ask(x, "B<?:W><=B<?:W>", 3000, 1);
        C.counts("the same", x, 1, 1, 0, 0);
        ask(x, "B<B<?:W>><=B<?:B<?:Z>>", 3000, 1);
        C.counts("the third", x, 6, 4, 1, 2);
    }

    /** "for each ARG Q of that and B of T, in order, till one is no" */
    private static void argsInOrder() {
        BoundTables x = C.table("Y;Z;P<a,b,c,d>;");
        ask(x, "P<Y,Y,Y,Y><=P<?:Y,?:Z,?:Y,?:Y>", 3000, 0);
        C.counts("the second is no", x, 3, 2, 0, 0);
        ask(x, "P<Y,Y,Y,Y><=P<Z,?:Y,?:Y,?:Y>", 3000, 0);
        C.counts("the first is no", x, 1, 1, 0, 0);
        ask(x, "P<Y,Y,Y,Y><=P<?:Y,?^Y,?:Any,Z>", 3000, 0);
        C.counts("the last is no", x, 4, 2, 0, 0);
        ask(x, "P<Y,Y,Y,Y><=P<?,?:Y,Y,?^Y>", 3000, 1);
        C.counts("none is no", x, 3, 2, 0, 0);
    }

    /** "Then, if T is a NEW variable with a FLOOR: S below the FLOOR: yes if it is." */
    private static void floorFirst() {
        BoundTables x = C.table("N;I:N;L<t>;B<t> with t:I;C<t> with t:N;");
        ask(x, "L<?^N><=L<?^I>", 3000, 1);
        C.counts("yes by the FLOOR", x, 3, 3, 1, 1);
        ask(x, "L<?^I><=L<?^N>", 3000, 0);
        C.counts("no by the FLOOR", x, 3, 3, 1, 0);
        ask(x, "in B:L<?^I><=L<?^t>", 3000, 1);
        C.counts("a PARAMETER below the FLOOR", x, 4, 4, 1, 0);
        ask(x, "in C:L<?^I><=L<?^t>", 3000, 0);
        C.counts("its BOUNDS below the FLOOR, then below the variable", x, 6, 4, 1, 0);
        ask(x, "L<?^Any><=L<?^I>", 3000, 1);
        C.counts("a FLOOR that is ANY", x, 3, 3, 1, 0);
    }

    /** "If T is a variable: no." */
    private static void variableAbove() {
        BoundTables x = C.table("Z;L<t>;B<t> with t:Z;");
        ask(x, "in B:Z<=t", 3000, 0);
        C.counts("a PARAMETER", x, 1, 1, 0, 0);
        ask(x, "in L:Any<=t", 3000, 0);
        C.counts("ANY below it", x, 1, 1, 0, 0);
        ask(x, "in B:L<?><=t", 3000, 0);
        C.counts("no NEW ones for it", x, 1, 1, 0, 0);
        ask(x, "L<?><=L<?^Z>", 3000, 0);
        C.counts("a NEW one without a FLOOR", x, 2, 2, 1, 0);
        ask(x, "in B:L<?:Z><=L<?^t>", 3000, 0);
        C.counts("a PARAMETER below it", x, 3, 3, 1, 0);
    }

    private static void variable(BoundTables x, int v, int what, String type) {
        C.due("variable(" + v + ", " + what + ")", x.variable(v, what), type.length());
        C.due("variable(" + v + ", " + what + ")", Check.page(x), type);
    }

    /** "from the left, all made before one is bound": a BOUND may name a later one. */
    private static void allMadeBeforeOneIsBound() {
        BoundTables x = C.table("Z;L<t>;P<a,b,c,d> with a:P<d,c,b,a>,d:L<?:a>&L<?^b>;");
        ask(x, "P<?,Z,?:L<Z>,?^Z><=Z", 3000, 0);
        C.counts("three of them", x, 1, 1, 3, 5 + 3 + 3);
        variable(x, 0, 0, "P<#2,#1,Z,#0>");
        variable(x, 1, 0, "L<Z>");
        variable(x, 2, 0, "L<?:#0>");
        variable(x, 2, 1, "L<?^Z>");
        variable(x, 2, -1, "Z");
    }

    private static void variablesWithoutAClassAbove() {
        BoundTables x = C.table("Z;L<t>;B<t,u> with u:L<t>:L<u>;");
        ask(x, "B<?,?><=Z", 3000, 0);
        C.counts("none above", x, 1, 1, 2, 2);
        ask(x, "L<?><=B<?,?>", 3000, 0);
        C.counts("below", x, 1, 1, 1, 0);
        ask(x, "B<?,?><=L<?>", 3000, 1);
        C.counts("above", x, 1, 1, 2, 4);
    }

    /** "NEW variables are numbered from 0 on in each call." */
    private static void numberedFrom0() {
        BoundTables x = C.table("L<t>;M<t>:L<t>;");
        for (int i = 0; i < 3; i++) {
            ask(x, "M<?:L<?>><=L<?:L<?:L<?>>>", 3000, 0);
            C.due("told(2)", x.told(2), 2);
            variable(x, 0, 0, "L<?>");
            variable(x, 1, 0, "Any");
            C.due("a place", Check.fed(x, "M<?> above L").above(), 5);
            C.due("its variable", Check.page(x), "L<#0>");
            C.due("told(2)", x.told(2), 1);
        }
    }

    private static String pairs(int levels) {
        return levels == 0 ? "Any" : "A<?:" + pairs(levels - 1) + ",?,Z>";
    }

    private static String ones(int levels) {
        return levels == 0 ? "Any" : "B<?:" + ones(levels - 1) + ",Z>";
    }

    /** "with FULL, if there would be a 301st NEW variable": 126 + 126 + 30 + 15 + 3 are 300. */
    private static void most300() {
        String table = "Y;Z;P<a,b,c,d>;A<x,y,k> with x:A<?,?,Y>&A<?,?,Z>;B<x,k> with x:B<?,Y>&B<?,Z>;";
        String s = "P<A<?,?,Z>,A<?,?,Z>,P<A<?,?,Z>,B<?,Z>,B<?,Z>,";
        String t = "<=P<?:" + pairs(6) + ",?:" + pairs(6) + ",?:P<?:" + pairs(4) + ",?:" + ones(4) + ",?:" + ones(2) + ",";
        BoundTables x = C.table(table);
        ask(x, s + "Z>,Z>" + t + "?>,?>", 3000, 1);
        C.due("told(2)", x.told(2), 300);
        C.throwsIndex("variable(300, 0)", () -> x.variable(300, 0));
        C.due("variable(299, 0)", x.variable(299, 0), 6);
        BoundTables y = C.table(table);
        ask(y, s + "B<?,Z>>,Z>" + t + "?:B<?:Any,Z>>,?>", 3000, FULL);
        C.due("told(2)", y.told(2), 300);
        C.due("variable(299, 0)", y.variable(299, 0), 6);
        BoundTables z = C.table(table);
        ask(z, s + "B<Z,Z>>,Z>" + t + "?:B<?:Any,Z>>,?>", 3000, 1);
        C.due("told(2)", z.told(2), 300);
    }

    /** "(All those of a TYPE are made first; a 301st is FULL before any BOUND.)" */
    private static void fullBeforeAnyBound() {
        String table = "Y;Z;P<a,b,c,d>;A<x,y,k> with x:A<?,?,Y>&A<?,?,Z>;B<x,k> with x:B<?,Y>&B<?,Z>;"
                + "Q<a,b,c,d> with a:Z,b:Z,c:Z&Z,d:Z;";
        String s = "P<A<?,?,Z>,A<?,?,Z>,P<A<?,?,Z>,B<?,Z>,Z,";
        String t = "<=P<?:" + pairs(6) + ",?:" + pairs(6) + ",?:P<?:" + pairs(4) + ",?:" + ones(4) + ",?,";
        BoundTables x = C.table(table);
        ask(x, s + "Z>,Z>" + t + "?>,?>", 3000, 1);
        C.due("297 of them", x.told(2), 297);
        int together = x.told(3);
        BoundTables y = C.table(table);
        ask(y, s + "Q<?,?,?:Y,Z>>,Z>" + t + "?:Q<?,?,?,?>>,?>", 3000, 1);
        C.due("300 of them", y.told(2), 300);
        C.due("with their BOUNDS", y.told(3), together + 4);
        variable(y, 299, 0, "Y");
        variable(y, 299, 2, "Z");
        BoundTables z = C.table(table);
        ask(z, s + "Q<?,?,?:Y,?:Z>>,Z>" + t + "?:Q<?,?,?,?>>,?>", 3000, FULL);
        C.due("300 of them", z.told(2), 300);
        C.due("none of their BOUNDS", z.told(3), together);
        for (int v = 297; v < 300; v++) {
            C.due("variable(" + v + ", 0)", z.variable(v, 0), 0);
        }
        C.due("variable(296, 0)", z.variable(296, 0), 6);
    }

    private static String bushes(int levels) {
        return levels == 0 ? "Any" : "P<?:" + bushes(levels - 1) + ",Z,?,?>";
    }

    /** What is above Q has 200 NODES; a below bushes(4) takes 30 of it, which are 6000. */
    private static void most6000() {
        String table = "Z;V:Z;L<t>;P<a,b,c,d>;Q<x,y>:P<x,y," + Check.typeOf(196) + ",Z>;A<a,b> with a:Q<a,V>&Q<a,Z>;";
        BoundTables x = C.table(table);
        Check.fed(x, "Q<Z,Z> above P").above();
        C.due("NODES above Q", x.told(3), 200);
        ask(x, "in A:a<=" + bushes(4), 3000, 1);
        C.due("told(3)", x.told(3), 6000);
        ask(x, "in A:P<a,Z,Z,Z><=P<?:" + bushes(4) + ",?:Z,?,?>", 3000, 1);
        C.due("told(3)", x.told(3), 6000);
        ask(x, "in A:P<a,V,Z,Z><=P<?:" + bushes(4) + ",?:Z,?,?>", 3000, FULL);
        C.due("told(3)", x.told(3), 6000);
        ask(x, "in A:P<V,a,Z,Z><=P<?:Z,?:" + bushes(4) + ",?,?>", 3000, FULL);
        C.due("told(3)", x.told(3), 5801);
        BoundTables y = C.table(table);
        ask(y, "in A:P<V,V,V,a><=P<?:Z,?:Z,?:Z,?:" + bushes(3) + ">", 3000, 1);
        C.due("told(3)", y.told(3), 3 + 14 * 200);
    }

    private static String trees(int levels) {
        return levels == 0 ? "Any" : "B<?:" + trees(levels - 1) + ",Z,?>";
    }

    /** BOUNDS of 120 NODES each, two for each NEW variable: 15 + 7 + 3 of these make 6000. */
    private static void most6000OfBounds() {
        String big = Check.typeOf(117);
        String table = "Y;Z;L<t>;P<a,b,c,d>;B<x,k,j> with x:B<?,Y," + big + ">&B<?,Z," + big + ">;D<d> with d:Z;";
        String s = "P<B<?,Z,Z>,B<?,Z,Z>,B<?,Z,Z>,";
        String t = "><=P<?:" + trees(4) + ",?:" + trees(3) + ",?:" + trees(2) + ",";
        BoundTables x = C.table(table);
        ask(x, s + "Z" + t + "?>", 3000, 1);
        C.due("told(2)", x.told(2), 25);
        C.due("told(3)", x.told(3), 6000);
        ask(x, s + "D<?>" + t + "?:D<?:Any>>", 3000, FULL);
        C.due("told(2)", x.told(2), 26);
        C.due("told(3)", x.told(3), 6000);
        C.due("variable(25, 0)", x.variable(25, 0), 0);
        C.due("variable(24, 1)", x.variable(24, 1), 7 + big.length());
        ask(x, s + "D<Z>" + t + "?:D<?:Any>>", 3000, 1);
        C.due("told(3)", x.told(3), 6000);
    }

    /** "each time as many as it has as it is written with the class's own PARAMETERS" */
    private static void nodesAsWritten() {
        BoundTables x = C.table("Z;L<t>;P<a,b>;B<t> with t:P<t,L<t>>:P<t,t>;");
        ask(x, "B<L<L<L<Z>>>><=P<?,?>", 3000, 1);
        C.counts("ARGS do not count", x, 1, 1, 0, 3);
        ask(x, "B<?:L<L<L<Z>>>><=P<?,?>", 3000, 1);
        C.counts("what is behind ?: does not", x, 1, 1, 1, 3 + 4);
        ask(x, "B<?><=B<?:Any>", 3000, 1);
        C.counts("not, if S has T's class", x, 2, 2, 1, 4);
        ask(x, "B<L<Z>><=Z", 3000, 0);
        C.counts("none above", x, 1, 1, 0, 0);
        ask(x, "in B:t<=P<?,?>", 3000, 1);
        C.counts("a PARAMETER's own do not", x, 2, 2, 0, 0);
    }
}
