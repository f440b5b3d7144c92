import java.util.Random;

/** Promises 7 and 8 and told(9): ways, ROUNDS and what GROWS. */
public final class GrowthTest {
    private static final Check C = new Check("GrowthTest");

    public static void main(String[] args) {
        table("N<z>;C<x>:N<N<?^C<C<x>>>>;", "00 22", "01", 1);
        table("L<e>;M<x>:L<L<x>>;", "00 20", "00", 0);
        table("L<e>;M<x>:L<x>;", "00 10", "00", 0);
        table("C<t>;E<e>with e:E<e>:C<e>;", "00 11", "00", 0);
        table("E<e>with e:E<E<e>>;", "2", "1", 1);
        table("E<e>with e:E<?:e>;", "2", "1", 1);
        table("E<e>with e:E<?^e>;", "2", "1", 1);
        table("E<e>with e:E<?>;", "0", "0", 0);
        table("A<a,b>with a:A<b,a>;", "01 10", "00", 0);
        table("A<a,b>with a:A<b,A<a,a>>;", "12 10", "11", 1);
        table("A<a,b>with b:A<?:A<?,?>,A<a,?>>;", "12 00", "00", 0);
        table("A<a,b,c>with c:A<a,A<a,?,?>,A<b,?,?>>;", "120 102 000", "110", 1);
        table("A<a,b,c>with c:A<a,A<a,?,?>,A<b,?,?>>&A<c,?,?>;", "120 102 100", "111", 1);
        table("L<e>;A<a,b,c>with a:A<b,a,?>&A<?,c,A<b,?,?>>;", "0000 0010 0102 0010", "0111", 1);
        table("A<a,b>:Any;B<c>:A<A<?^B<c>,c>,B<c>>;", "000 000 221", "000", 0);
        graphs();
        replaced();
        C.end();
    }

    /** Ways between four PARAMETERS, drawn by chance: ROUNDS through any of them, long and short. */
    private static void graphs() {
        Random random = new Random(4);
        for (int run = 0; run < 400; run++) {
            int[][] ways = new int[4][4];
            StringBuilder text = new StringBuilder("A<a,b,c,d>with ");
            int none = 4 + random.nextInt(8);
            for (int p = 0; p < 4; p++) {
                String name = "abcd".substring(p, p + 1);
                text.append(p > 0 ? "," : "").append(name).append(":A<");
                for (int q = 0; q < 4; q++) {
                    int drawn = random.nextInt(none);
                    ways[p][q] = drawn < 2 ? drawn + 1 : 0;
                    text.append(q > 0 ? "," : "").append(new String[] {"?", name, "?:" + name}[ways[p][q]]);
                }
                text.append('>');
            }
            graph(text.append(';').toString(), ways);
        }
    }

    private static void graph(String text, int[][] ways) {
        StringBuilder rows = new StringBuilder();
        StringBuilder rounds = new StringBuilder();
        for (int p = 0; p < 4; p++) {
            for (int q = 0; q < 4; q++) {
                rows.append(ways[p][q]);
            }
            rows.append(' ');
            rounds.append(comesBack(ways, p) ? '1' : '0');
        }
        table(text, rows.toString().trim(), rounds.toString(), rounds.indexOf("1") >= 0 ? 1 : 0);
    }

    /** Walks from p, eight ways at most, and keeps where it is with and without one that grew. */
    private static boolean comesBack(int[][] ways, int p) {
        boolean[][] at = new boolean[4][2];
        at[p][0] = true;
        for (int step = 0; step < 8; step++) {
            boolean[][] next = new boolean[4][2];
            for (int i = 0; i < 32; i++) {
                int from = i / 8;
                int to = i / 2 % 4;
                int grown = i % 2;
                if (at[from][grown] && ways[from][to] > 0) {
                    next[to][ways[from][to] == 2 ? 1 : grown] = true;
                }
            }
            if (next[p][1]) {
                return true;
            }
            at = next;
        }
        return false;
    }

    /** Rows of way(p, q), then parameter(p, 3) of all, then told(9). */
    private static void table(String text, String ways, String rounds, int expansive) {
        BoundTables x = C.table(text);
        String[] rows = ways.split(" ");
        C.due("parameters of " + text, x.told(5), rows.length);
        for (int p = 0; p < rows.length; p++) {
            for (int q = 0; q < rows.length; q++) {
                C.due(text + " way(" + p + ", " + q + ")", x.way(p, q), rows[p].charAt(q) - '0');
            }
            C.due(text + " parameter(" + p + ", 3)", x.parameter(p, 3), rounds.charAt(p) - '0');
        }
        C.due(text + " told(9)", x.told(9), expansive);
    }

    private static void replaced() {
        BoundTables x = C.table("E<e>with e:E<E<e>>;");
        Check.fed(x, "A<a>;B:!").read();
        C.due("a fault leaves it", x.told(9), 1);
        Check.fed(x, "E<e>;").read();
        C.due("told(9) of the next table", x.told(9), 0);
        C.due("way(0, 0) of the next table", x.way(0, 0), 0);
        C.due("parameter(0, 3) of the next table", x.parameter(0, 3), 0);
        Check.fed(x, "E<e>with e:E<E<e>>;").read();
        C.due("and again", x.told(9), 1);
        x.clear();
        C.due("cleared", x.told(9), 0);
    }
}
