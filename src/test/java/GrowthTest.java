/** Promises 7 and 8 and told(9): ways, ROUNDS and what GROWS. */
public final class GrowthTest {
    private static final Check C = new Check("GrowthTest");

    public static void main(String[] args) {
        table("N<z>;C<x>:N<N<?^C<C<x>>>>;", "00 22", "01", 1);
        table("L<e>;M<x>:L<L<x>>;", "00 20", "00", 0);
        table("L<e>;M<x>:L<x>;", "00 10", "00", 0);
        table("C<t>;E<e>with e:E<e>:C<e>;", "00 11", "00", 0);
        table("E<e>with e:E<E<e>>;", "2", "1", 1);
        table("E<e>with e:E<?:e>;", "2", "1", 1);
        table("E<e>with e:E<?^e>;", "2", "1", 1);
        table("E<e>with e:E<?>;", "0", "0", 0);
        table("A<a,b>with a:A<b,a>;", "01 10", "00", 0);
        table("A<a,b>with a:A<b,A<a,a>>;", "12 10", "11", 1);
        table("A<a,b>with b:A<?:A<?,?>,A<a,?>>;", "12 00", "00", 0);
        table("A<a,b,c>with c:A<a,A<a,?,?>,A<b,?,?>>;", "120 102 000", "110", 1);
        table("A<a,b,c>with c:A<a,A<a,?,?>,A<b,?,?>>&A<c,?,?>;", "120 102 100", "111", 1);
        table("L<e>;A<a,b,c>with a:A<b,a,?>&A<?,c,A<b,?,?>>;", "0000 0010 0102 0010", "0111", 1);
        table("A<a,b>:Any;B<c>:A<A<?^B<c>,c>,B<c>>;", "000 000 221", "000", 0);
        replaced();
        C.end();
    }

    /** Rows of way(p, q), then parameter(p, 3) of all, then told(9). */
    private static void table(String text, String ways, String rounds, int expansive) {
        BoundTables x = C.table(text);
        String[] rows = ways.split(" ");
        C.due("parameters of " + text, x.told(5), rows.length);
        for (int p = 0; p < rows.length; p++) {
            for (int q = 0; q < rows.length; q++) {
                C.due(text + " way(" + p + ", " + q + ")", x.way(p, q), rows[p].charAt(q) - '0');
            }
            C.due(text + " parameter(" + p + ", 3)", x.parameter(p, 3), rounds.charAt(p) - '0');
        }
        C.due(text + " told(9)", x.told(9), expansive);
    }

    private static void replaced() {
        BoundTables x = C.table("E<e>with e:E<E<e>>;");
        Check.fed(x, "A<a>;B:!").read();
        C.due("a fault leaves it", x.told(9), 1);
        Check.fed(x, "E<e>;").read();
        C.due("told(9) of the next table", x.told(9), 0);
        C.due("way(0, 0) of the next table", x.way(0, 0), 0);
        C.due("parameter(0, 3) of the next table", x.parameter(0, 3), 0);
        Check.fed(x, "E<e>with e:E<E<e>>;").read();
        C.due("and again", x.told(9), 1);
        x.clear();
        C.due("cleared", x.told(9), 0);
    }
}
