/** Promises 1, 2, 4, 5, 6, 7, 10 and 14, and the exceptions of every method. */
public final class FaceTest {
    private static final Check C = new Check("FaceTest");
    private static final String TABLE =
            "Num; Int : Num; Pair<First,s>; Abcdefgh<t> with t : Num & Pair<t,?> : Pair<t,Int>, Num, Any;";

    public static void main(String[] args) {
        newObject(new BoundTables());
        feed();
        classes();
        aboves();
        parameters();
        told();
        clear();
        wrongNumbers();
        nothingChangesWithFaults();
        C.end();
    }

    private static void newObject(BoundTables x) {
        for (int what = 0; what <= 9; what++) {
            C.due("told(" + what + ") at first", x.told(what), what == 4 ? 1 : 0);
        }
        C.due("fault() at first", x.fault(), 0);
        C.due("cls(0, 0)", x.cls(0, 0), 0);
        C.due("cls(0, 1)", x.cls(0, 1), 0);
        C.due("cls(0, 2)", x.cls(0, 2), 1);
        C.due("cls(0, 3)", x.cls(0, 3), Check.packed("Any"));
        C.due("cls(0, 4)", x.cls(0, 4), BoundTables.NONE);
        C.due("isAbove(0, 0)", x.isAbove(0, 0), 1);
        C.throwsIndex("cls(1, 0)", () -> x.cls(1, 0));
        C.throwsIndex("parameter(0, 0)", () -> x.parameter(0, 0));
        C.throwsIndex("way(0, 0)", () -> x.way(0, 0));
        C.throwsIndex("variable(0, 0)", () -> x.variable(0, 0));
        C.throwsIndex("written(0)", () -> x.written(0));
        C.due("Any<=Any", Check.ask(x, "Any<=Any"), 1);
        C.due("Any above Any", Check.fed(x, "Any above Any").above(), 3);
        C.due("what is written", Check.page(x), "Any");
    }

    private static void feed() {
        BoundTables x = new BoundTables();
        C.due("feed(.., 1)", x.feed(0x4142434445464741L, 1), 1);
        C.due("feed(.., 2)", x.feed(0x4142434445463B20L, 2), 3);
        C.due("feed(.., 8)", x.feed(0x423A413B20202020L, 8), 11);
        C.due("told(7)", x.told(7), 11);
        C.due("read()", x.read(), 3);
        C.due("told(7) behind", x.told(7), 0);
        C.due("the first name", x.cls(1, 3), 'A');
        C.due("the second name", x.cls(2, 3), 'B');
        C.due("B below A", x.isAbove(2, 1), 1);
        for (int n : new int[] {0, 9, -1, Integer.MIN_VALUE, Integer.MAX_VALUE}) {
            C.throwsArgument("feed(1, " + n + ")", () -> x.feed(1L, n));
        }
        for (int i = 1; i <= 99; i++) {
            C.due("feed of 8", x.feed(0x2020202020202020L, 8), 8 * i);
        }
        x.feed(-1L, 5);
        C.due("797 bytes", Check.thrown(() -> x.feed(0L, 4)), "UnsupportedOperationException");
        C.due("797 bytes stay", x.told(7), 797);
        C.due("a wrong number first", Check.thrown(() -> x.feed(0L, 9)), "IllegalArgumentException");
        C.due("the last three", x.feed(0L, 3), 800);
        C.due("an 801st", Check.thrown(() -> x.feed(0L, 1)), "UnsupportedOperationException");
        C.due("the first byte that is none", x.read(), -10 - 792);
        C.due("its fault", x.fault(), 1);
    }

    private static void classes() {
        BoundTables x = C.table(TABLE);
        int[][] want = {{0, 0, 1, -1}, {0, 0, 2, -1}, {0, 1, 3, -1}, {2, 0, 2, 0}, {1, 3, 4, 2}};
        String[] names = {"Any", "Num", "Int", "Pair", "Abcdefgh"};
        for (int k = 0; k < want.length; k++) {
            C.due("parameters of " + k, x.cls(k, 0), want[k][0]);
            C.due("types behind the : of " + k, x.cls(k, 1), want[k][1]);
            C.due("classes above " + k, x.cls(k, 2), want[k][2]);
            C.due("name of " + k, x.cls(k, 3), Check.packed(names[k]));
            C.due("first parameter of " + k, x.cls(k, 4), want[k][3]);
        }
    }

    private static void aboves() {
        BoundTables x = C.table(TABLE);
        String[] want = {"10000", "11000", "11100", "10010", "11011"};
        for (int k = 0; k < 5; k++) {
            for (int a = 0; a < 5; a++) {
                C.due("isAbove(" + k + ", " + a + ")", x.isAbove(k, a), want[k].charAt(a) - '0');
            }
        }
    }

    private static void parameters() {
        BoundTables x = C.table(TABLE);
        int[] cls = {3, 3, 4};
        int[] bounds = {0, 0, 2};
        String[] names = {"First", "s", "t"};
        for (int p = 0; p < 3; p++) {
            C.due("class of " + p, x.parameter(p, 0), cls[p]);
            C.due("bounds of " + p, x.parameter(p, 1), bounds[p]);
            C.due("name of " + p, x.parameter(p, 2), Check.packed(names[p]));
            C.due("round of " + p, x.parameter(p, 3), 0);
        }
    }

    private static void told() {
        BoundTables x = C.table(TABLE);
        C.due("told(4)", x.told(4), 5);
        C.due("told(5)", x.told(5), 3);
        C.due("told(6)", x.told(6), 1 + 1 + 3 + 3 + 1 + 1);
        C.due("told(9)", x.told(9), 0);
        C.counts("behind a read()", x, 0, 0, 0, 0);
        C.due("a question", Check.ask(x, "Abcdefgh<?> <= Pair<?:Num,?>"), 1);
        C.counts("behind a question", x, 3, 3, 1, 1 + 3 + 3);
        C.due("a question with a fault", Check.ask(x, "Num<=Nun"), -15);
        C.counts("behind a fault", x, 3, 3, 1, 7);
        C.due("a read with a fault", Check.fed(x, "Num").read(), -13);
        C.counts("behind a read with a fault", x, 3, 3, 1, 7);
        C.due("a variable is there still", x.variable(0, 0), 3);
        C.due("above", Check.fed(x, "Abcdefgh<Int> above Pair").above(), 13);
        C.counts("behind above()", x, 0, 0, 0, 3);
        C.due("read", Check.fed(x, "Num;").read(), 2);
        C.counts("behind a read", x, 0, 0, 0, 0);
        C.due("told(8) stays", x.told(8), 13);
        C.due("told(5) of the new one", x.told(5), 0);
        C.due("told(6) of the new one", x.told(6), 0);
    }

    private static void clear() {
        BoundTables x = C.table(TABLE);
        Check.ask(x, "Abcdefgh<?> <= Pair<?:Num,?>");
        x.variable(0, 1);
        Check.ask(x, "?");
        Check.fed(x, "Num");
        x.clear();
        newObject(x);
        x.clear();
        x.clear();
        newObject(x);
    }

    private static void wrongNumbers() {
        BoundTables x = C.table(TABLE);
        Check.ask(x, "Abcdefgh<?> <= Pair<?:Num,?>");
        for (int n : new int[] {-1, 5, Integer.MIN_VALUE, Integer.MAX_VALUE}) {
            C.throwsIndex("cls(" + n + ", 0)", () -> x.cls(n, 0));
            C.throwsIndex("cls(" + n + ", 9)", () -> x.cls(n, 9));
            C.throwsArgument("cls(1, " + n + ")", () -> x.cls(1, n));
            C.throwsIndex("isAbove(" + n + ", 0)", () -> x.isAbove(n, 0));
            C.throwsIndex("isAbove(0, " + n + ")", () -> x.isAbove(0, n));
            C.throwsIndex("parameter(" + n + ", 0)", () -> x.parameter(n, 0));
            C.throwsIndex("parameter(" + n + ", 9)", () -> x.parameter(n, 9));
            C.throwsArgument("parameter(1, " + n + ")", () -> x.parameter(1, n));
            C.throwsIndex("way(" + n + ", 0)", () -> x.way(n, 0));
            C.throwsIndex("way(0, " + n + ")", () -> x.way(0, n));
            C.throwsIndex("variable(" + n + ", 0)", () -> x.variable(n, 0));
            C.throwsIndex("written(" + n + ")", () -> x.written(n));
        }
        C.throwsIndex("parameter(3, 0)", () -> x.parameter(3, 0));
        C.throwsArgument("parameter(0, 4)", () -> x.parameter(0, 4));
        C.throwsIndex("variable(1, 0)", () -> x.variable(1, 0));
        for (int n : new int[] {-1, 10, Integer.MIN_VALUE, Integer.MAX_VALUE}) {
            C.throwsArgument("told(" + n + ")", () -> x.told(n));
        }
        for (int n : new int[] {-1, 3001, Integer.MIN_VALUE, Integer.MAX_VALUE}) {
            Check.fed(x, "Num");
            C.throwsArgument("ask(" + n + ")", () -> x.ask(n));
            C.due("the tape stays", x.told(7), 3);
            C.due("ask(0)", x.ask(0), -13);
        }
    }

    private static void nothingChangesWithFaults() {
        BoundTables x = C.table(TABLE);
        C.due("fault() of a right read", x.fault(), 0);
        C.due("read", Check.fed(x, "Other<a,b>; Other;").read(), -22);
        C.due("fault()", x.fault(), 3);
        C.due("the tape is empty", x.told(7), 0);
        C.due("classes stay", x.told(4), 5);
        C.due("parameters stay", x.told(5), 3);
        C.due("nodes stay", x.told(6), 10);
        C.due("names stay", x.cls(1, 3), Check.packed("Num"));
        C.due("parameter names stay", x.parameter(0, 2), Check.packed("First"));
        C.due("ways stay", x.way(2, 0), 1);
        C.due("a question", Check.ask(x, "Int<=Num"), 1);
        C.due("fault() of a right question", x.fault(), 0);
        C.due("a place with a fault", Check.fed(x, "Int above num").above(), -20);
        C.due("its fault", x.fault(), 4);
        C.due("a right place", Check.fed(x, "Int above Num").above(), 3);
        C.due("no fault", x.fault(), 0);
    }
}
