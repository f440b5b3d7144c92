/** The example of README.md, with what it says of each call. */
public final class ReadmeTest {
    private static final Check C = new Check("ReadmeTest");

    public static void main(String[] args) {
        BoundTables x = new BoundTables();
        put(x, "Num; Int : Num; Coll<E>; List<E> : Coll<E>; Box<T> with T : Num;");
        C.due("read()", x.read(), 6);
        put(x, "List<? : Int> <= Coll<? : Num>");
        C.due("ask(3000)", x.ask(3000), 1);
        C.due("told(2)", x.told(2), 1);
        C.due("variable(0, 0)", x.variable(0, 0), 3);
        C.due("its bytes", Check.page(x), "Int");
        put(x, "List<Int> above Coll");
        C.due("above()", x.above(), 9);
        C.due("its bytes", Check.page(x), "Coll<Int>");
        C.due("written(0)", x.written(0), 67);
        C.end();
    }

    private static void put(BoundTables x, String text) {
        for (char c : text.toCharArray()) {
            x.feed(c, 1);
        }
    }
}
