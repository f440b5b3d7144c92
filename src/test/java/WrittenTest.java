/** Promises 11, 12 and 13: what stands above a TYPE, and NEW variables, written. */
public final class WrittenTest {
    private static final Check C = new Check("WrittenTest");
    private static final String TABLE = "Num; Int : Num; Coll<E>; List<E> : Coll<E>; Fun<A,R>;"
            + " Map<Key,V> with Key : Fun<Key,V> & Coll<?^V> : Coll<Fun<Key,?:V>>; Day : List<Coll<?>>;";

    public static void main(String[] args) {
        aboves();
        noneAbove();
        captured();
        variables();
        fullOnes();
        pages();
        C.end();
    }

    private static void above(String place, String page, int made, int together) {
        BoundTables x = C.table(TABLE);
        C.due(place, Check.fed(x, place).above(), page.length());
        C.due(place, Check.page(x), page);
        C.due(place + ": told(8)", x.told(8), page.length());
        C.due(place + ": fault()", x.fault(), 0);
        C.counts(place, x, 0, 0, made, together);
    }

    private static void aboves() {
        above("Int above Num", "Num", 0, 1);
        above("List<Int> above Coll", "Coll<Int>", 0, 2);
        above(" List \n< Coll< ? > > above Coll ", "Coll<Coll<?>>", 0, 2);
        above("Day above Coll", "Coll<Coll<?>>", 0, 3);
        above("Day above List", "List<Coll<?>>", 0, 3);
        above("Map<Num,Int> above Coll", "Coll<Fun<Num,?:Int>>", 0, 5);
        above("in Map:Map<V,List<Key>> above Coll", "Coll<Fun<V,?:List<Key>>>", 0, 5);
        above("in Fun : List<Fun<R,A>> above Coll", "Coll<Fun<R,A>>", 0, 2);
    }

    /** The TYPE's own class, Any, or nothing: no NEW variables, nothing put together. */
    private static void noneAbove() {
        above("Map<?,?^Int> above Map", "Map<?,?^Int>", 0, 0);
        above("Fun<?:Num,Coll<?^Int>> above Fun", "Fun<?:Num,Coll<?^Int>>", 0, 0);
        above("List<?> above Any", "Any", 0, 0);
        above("in Coll:E above Any", "Any", 0, 0);
        above("Any above Any", "Any", 0, 0);
        above("Num above Num", "Num", 0, 0);
        BoundTables x = C.table(TABLE);
        Check.fed(x, "List<?> above Coll").above();
        C.due("a variable", x.told(2), 1);
        for (String place : new String[] {"List<?> above Fun", "in Map:Key above Fun", "in Map:Key above Coll", "Num above Int",
                "Any above Num"}) {
            C.due(place, Check.fed(x, place).above(), 0);
            C.due(place + ": fault()", x.fault(), 0);
            C.due("what was written stays", Check.page(x), "Coll<#0>");
            C.counts(place, x, 0, 0, 0, 0);
            C.throwsIndex(place + ": no variable", () -> x.variable(0, 0));
        }
    }

    private static void captured() {
        above("List<?> above Coll", "Coll<#0>", 1, 2);
        above("List<?:Int> above Coll", "Coll<#0>", 1, 2);
        above("Map<Int,?> above Coll", "Coll<Fun<Int,?:#0>>", 1, 5);
        above("Map<?,Int> above Coll", "Coll<Fun<#0,?:Int>>", 1, 5 + 3 + 3);
        above("Map<?:Num,?^Coll<?>> above Coll", "Coll<Fun<#0,?:#1>>", 2, 5 + 3 + 3);
    }

    private static void variable(BoundTables x, int v, int what, String page) {
        C.due("variable(" + v + ", " + what + ")", x.variable(v, what), page.length());
        C.due("variable(" + v + ", " + what + ")", Check.page(x), page);
    }

    private static void noVariable(BoundTables x, int v, int what) {
        String before = Check.page(x);
        C.due("variable(" + v + ", " + what + ")", x.variable(v, what), 0);
        C.due("what was written stays", Check.page(x), before);
    }

    private static void variables() {
        BoundTables x = C.table(TABLE);
        Check.fed(x, "Map<?:Num,?^Coll<?>> above Coll").above();
        variable(x, 0, 0, "Num");
        variable(x, 0, 1, "Fun<#0,#1>");
        variable(x, 0, 2, "Coll<?^#1>");
        variable(x, 1, 0, "Any");
        variable(x, 1, -1, "Coll<?>");
        noVariable(x, 0, -1);
        noVariable(x, 0, 3);
        noVariable(x, 1, 1);
        noVariable(x, 0, -2);
        noVariable(x, 0, Integer.MIN_VALUE);
        noVariable(x, 0, Integer.MAX_VALUE);
        C.throwsIndex("variable(2, 0)", () -> x.variable(2, 0));
        C.throwsIndex("variable(-1, 0)", () -> x.variable(-1, 0));
        C.throwsIndex("variable(2, 7)", () -> x.variable(2, 7));
        C.due("a question", Check.ask(x, "in Map:Map<?^V,Key> <= Coll<?:Fun<?,?>>"), 1);
        variable(x, 0, 0, "Fun<#0,Key>");
        variable(x, 0, 1, "Coll<?^Key>");
        variable(x, 0, -1, "V");
        C.due("a fault", Check.ask(x, "Num<="), -15);
        variable(x, 0, 0, "Fun<#0,Key>");
        C.due("a read with a fault", Check.fed(x, "Num").read(), -13);
        variable(x, 0, -1, "V");
        C.due("a read", Check.fed(x, "Num;").read(), 2);
        C.throwsIndex("none behind a read()", () -> x.variable(0, 0));
        C.due("what was written stays", Check.page(x), "V");
    }

    /** Numbers of three figures; a NEW one that FULL came before has no BOUNDS yet. */
    private static void fullOnes() {
        BoundTables x = C.table("Z; A<x,y> with x:A<?,?>&A<?,?>;");
        String nest = "Z";
        for (int i = 0; i < 7; i++) {
            nest = "A<?:" + nest + ",?>";
        }
        C.due("150 times two", Check.ask(x, "A<?,?><=" + nest), BoundTables.FULL);
        C.due("told(2)", x.told(2), 300);
        C.due("told(3)", x.told(3), 900);
        variable(x, 298, 0, "A<?,?>");
        variable(x, 298, 1, "A<?,?>");
        variable(x, 299, 0, "Any");
        C.due("one, then twos", Check.ask(x, "A<?,Z><=" + nest), BoundTables.FULL);
        C.due("told(2)", x.told(2), 300);
        C.due("told(3)", x.told(3), 900);
        variable(x, 298, 0, "Any");
        noVariable(x, 299, 0);
        noVariable(x, 299, -1);
    }

    private static void pages() {
        BoundTables x = C.table("Longname<a,b>; B<t> : Longname<t,t>; C<t> : B<Longname<t,t>>;"
                + " D<t> : C<Longname<t,t>>; E<t> : D<Longname<t,t>>;");
        String whole = "Any";
        for (int i = 0; i < 4; i++) {
            whole = "Longname<" + whole + "," + whole + ">";
        }
        page(x, "E<Any> above Longname", whole);
        String arg = "Longname<Longname<?:Any,?>,Longname<?,?^Any>>";
        String most = "Longname<" + arg + "," + arg + ">";
        page(x, "B<" + arg + "> above Longname", most);
        for (int i = 0; i < 4; i++) {
            most = "Longname<" + most + "," + most + ">";
        }
        page(x, "E<Longname<" + arg + "," + arg + ">> above Longname", most);
        C.throwsIndex("written(1000)", () -> x.written(1000));
        C.due("written(999)", x.written(999), most.charAt(999));
        aboutAThousand();
    }

    private static void page(BoundTables x, String place, String whole) {
        int due = Math.min(1000, whole.length());
        C.due(place, Check.fed(x, place).above(), due);
        C.longPage(place, x, whole.substring(0, due));
        C.throwsIndex("written(" + due + ")", () -> x.written(due));
        C.throwsIndex("written(-1)", () -> x.written(-1));
    }

    /** TYPES of 976 to 1311 bytes, so that bytes of each kind come to be the 1000th. */
    private static void aboutAThousand() {
        String part = "P<?:Zz,?^P<?,?,Z,Zzz>,?,Zzzz>";
        String four = "P<" + part + "," + part + "," + part + "," + part + ">";
        StringBuilder sizes = new StringBuilder();
        for (int n = 8; n <= 64; n++) {
            int[] names = new int[8];
            for (int i = 0; i < n; i++) {
                names[i % 8]++;
            }
            StringBuilder y = new StringBuilder("P<");
            for (int i = 0; i < 4; i++) {
                y.append(i == 0 ? "P<" : ",P<").append(name(names[2 * i])).append(",?,").append(name(names[2 * i + 1])).append(",?>");
            }
            y.append('>');
            for (String last : new String[] {part, four}) {
                String x = "P<" + four + "," + four + "," + part + "," + last + ">";
                String whole = "P<" + y + "," + x + "," + x + "," + x + ">";
                BoundTables t = C.table("Z;Zz;Zzz;Zzzz;Zzzzz;Zzzzzz;Zzzzzzz;Zzzzzzzz;P<a,b,c,d>;Q<a,b>:P<a,b,b,b>;");
                page(t, "Q<" + y + "," + x + ">above P", whole);
                sizes.append(' ').append(whole.length()).append(' ');
            }
        }
        for (int size = 997; size <= 1003; size++) {
            C.due("a page of " + size + " was there", sizes.indexOf(" " + size + " ") >= 0 ? 1 : 0, 1);
        }
    }

    private static String name(int size) {
        return "Zzzzzzzz".substring(0, size);
    }
}
