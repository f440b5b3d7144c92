/** The edges that the document names, and objects that are used for as long as they may be. */
public final class LimitTest {
    private static final Check C = new Check("LimitTest");

    public static void main(String[] args) {
        mostOfAll();
        fuel();
        nodesTogether();
        growingTypes();
        manyReads();
        muchAbove();
        roomForAbove();
        manyNodes();
        C.end();
    }

    /** 20 classes with four PARAMETERS each, each below the one before. */
    private static void mostOfAll() {
        StringBuilder sb = new StringBuilder("A<a,b,c,d>;");
        for (char c = 'B'; c <= 'T'; c++) {
            sb.append(c).append("<a,b,c,d>:").append((char) (c - 1)).append("<b,c,d,a>;");
        }
        BoundTables x = C.table(sb.toString());
        C.due("classes", x.told(4), 21);
        C.due("parameters", x.told(5), 80);
        C.due("nodes", x.told(6), 95);
        C.due("classes above T", x.cls(20, 2), 21);
        C.due("T's first parameter", x.cls(20, 4), 76);
        C.due("way(76, 75)", x.way(76, 75), 1);
        C.due("way(79, 74)", x.way(79, 74), 1);
        C.due("way(79, 79)", x.way(79, 79), 0);
        C.throwsIndex("parameter(80, 0)", () -> x.parameter(80, 0));
        Check.fed(x, "T<A<?,?,?,?>,?,?:T<?,?,?,?>,Any> above A").above();
        C.due("19 turns", Check.page(x), "A<Any,A<?,?,?,?>,#0,#1>");
        C.due("T<=A", Check.ask(x, "T<?,?,?,?><=A<?:Any,?,?:Any,?>"), 1);
        C.counts("T<=A", x, 3, 2, 4, 5);
    }

    /** A TYPE that class P's a is below: with 1, 7, 31, .. questions, all BOUNDS being tried. */
    private static String dear(int levels) {
        String in = levels > 1 ? dear(levels - 1) : "Any";
        return "P<?:" + in + ",?:" + in + ",Z>";
    }

    private static void fuel() {
        BoundTables x = C.table("Z; Y; A<x> with x:A<Z>&A<?>;");
        String question = "A<?><=A<?:A<?:A<?:Y>>>";
        C.due(question, Check.ask(x, question), 0);
        C.counts(question, x, 12, 7, 4, 16);
        C.due("just enough", Check.fed(x, question).ask(12), 0);
        C.due("one too few", Check.fed(x, question).ask(11), BoundTables.FUEL);
        C.counts("one too few", x, 11, 7, 3, 12);
        BoundTables y = C.table("Y; Z; P<a,b,c> with a:P<b,b,Y>&P<b,b,Z>, b:P<a,a,Y>&P<a,a,Z>;");
        C.due("2047 questions", Check.ask(y, "in P:a<=" + dear(5)), 1);
        C.counts("2047 questions", y, 2047, 11, 0, 0);
        C.due("just enough", Check.fed(y, "in P:a<=" + dear(5)).ask(2047), 1);
        C.due("one too few", Check.fed(y, "in P:a<=" + dear(5)).ask(2046), BoundTables.FUEL);
        C.due("5119 questions", Check.ask(y, "in P:a<=P<?:" + dear(5) + ",?:" + dear(4) + ",Z>"), BoundTables.FUEL);
        C.counts("5119 questions", y, 3000, 13, 0, 0);
    }

    private static String wide(int nodes) {
        String in = nodes > 5 ? wide(nodes - 4) : "Z";
        return "P<" + in + ",Z,Z,Z>";
    }

    /** BOUNDS of 2 and of 95 NODES: 61 times 97, then 2 more, then 95 would be too many. */
    private static void nodesTogether() {
        String five = "P<Z,Z,Z,Z>";
        String twenty1 = "P<" + five + "," + five + "," + five + "," + five + ">";
        String big = "P<" + twenty1 + "," + twenty1 + "," + twenty1 + ",P<" + five + "," + five + "," + five + ",P<"
                + five + "," + five + ",Z,Z>>>";
        BoundTables x = C.table("Z;P<a,b,c,d>;A<x>with x:A<?>&A<?:" + big + ">;");
        C.due("nodes of the table", x.told(6), 97);
        String nest = "Z";
        for (int i = 0; i < 7; i++) {
            nest = "A<?:" + nest + ">";
        }
        C.due("a question", Check.ask(x, "A<?><=" + nest), BoundTables.FULL);
        C.due("told(2)", x.told(2), 62);
        C.due("told(3)", x.told(3), 61 * 97 + 2);
        exactly6000(twenty1, five);
    }

    /** 1, then 99 times 60, then 59: one more BOUND of one NODE is too many. */
    private static void exactly6000(String twenty1, String five) {
        String big = "P<" + twenty1 + "," + twenty1 + "," + five + "," + five + ">";
        BoundTables x = C.table("Z;P<a,b,c,d>;A<x,y>with x:A<?,?>&A<?,?:" + big + ">,y:Z;B<b>with b:Z;");
        String nest = "Z";
        for (int i = 0; i < 6; i++) {
            nest = "A<?:" + nest + ",?>";
        }
        C.due("a question", Check.ask(x, "B<?:A<?,?>><=B<?:" + nest + ">"), BoundTables.FULL);
        C.due("told(2)", x.told(2), 201);
        C.due("told(3)", x.told(3), 6000);
        C.due("variable(0, 0)", x.variable(0, 0), 6);
        C.due("variable(0, 1)", x.variable(0, 1), 1);
        C.due("variable(199, 1)", x.variable(199, 1), 7 + big.length());
    }

    /** TYPES that double with every step fill the page, and end all the same. */
    private static void growingTypes() {
        BoundTables x = C.table("Z;P<x,y>;N<z>;D<x,w>with w:P<x,w>:N<N<?^D<P<x,x>,?>>>;");
        C.due("a question", Check.ask(x, "D<Z,?><=N<?^D<Z,?>>"), BoundTables.DEEP);
        C.due("told(1)", x.told(1), 40);
        int last = x.told(2) - 1;
        C.due("40 variables or fewer", last >= 30 && last < 40 ? 1 : 0, 1);
        C.due("variable(" + last + ", 0)", x.variable(last, 0), 1000);
        C.due("its first bytes", Check.page(x, 8), "P<P<P<P<");
        C.due("variable(0, 0)", x.variable(0, 0), 7);
        C.due("its bytes", Check.page(x), "P<Z,#0>");
    }

    /** Tables that are large and tables that are small, in turn, in one object. */
    private static void manyReads() {
        BoundTables x = new BoundTables();
        for (int i = 0; i < 4; i++) {
            StringBuilder sb = new StringBuilder("P<a,b,c,d>;A<a>:P<" + wide(20).replace("Z", "a") + ",a,a,a>;");
            for (char c = 'B'; c <= 'M'; c++) {
                sb.append(c).append("<a>:").append((char) (c - 1)).append("<a>;");
            }
            C.due("a large read", Check.fed(x, sb.toString()).read(), 15);
            Check.fed(x, "M<Any> above P").above();
            C.due("what is above M", x.told(3), 25);
            C.due("a small read", Check.fed(x, "A;B:A;").read(), 3);
            C.due("B<=A", Check.ask(x, "B<=A"), 1);
            C.due("A<=B", Check.ask(x, "A<=B"), 0);
        }
    }

    /** Nine classes with nine others above each of them, with 199 or 200 NODES each. */
    private static void muchAbove() {
        String big = Check.typeOf(199).replace("Z", "Any").replace("L<", "A<");
        StringBuilder sb = new StringBuilder("P<a,b,c,d>;A<t>;");
        for (char c = 'B'; c <= 'I'; c++) {
            sb.append(c).append("<t>:").append((char) (c - 1)).append("<t>;");
        }
        sb.append("J:I<").append(big).append(">;");
        for (char c = 'K'; c <= 'S'; c++) {
            if (c != 'P') {
                sb.append(c).append(':').append((char) (c == 'Q' ? 'O' : c - 1)).append(';');
            }
        }
        for (char c = 'A'; c <= 'I'; c++) {
            BoundTables x = C.table(sb.toString());
            Check.fed(x, "S above " + c).above();
            C.due("NODES above S", x.told(3), 200);
            C.longPage("S above " + c, x, c + "<" + big + ">");
            C.due("J below it", Check.ask(x, "J<=" + c + "<?:P<?,?,?,?>>"), 1);
            C.due("S below J", Check.ask(x, "S<=J"), 1);
            C.due("J below S", Check.ask(x, "J<=S"), 0);
            C.due("the same table", Check.fed(x, sb.toString()).read(), 20);
            C.due("S below it", Check.ask(x, "S<=" + c + "<?:P<?,?,?,?>>"), 1);
        }
    }

    /**
     * The row of what is above grows when it is full, at whichever TYPE that is: tables of all sizes,
     * among them some in which the last that fits is a class's own TYPE, or ANY.
     */
    private static void roomForAbove() {
        int[][] shapes = {{3, 4}, {2, 1}, {2, 5}, {1, 8}};
        for (int[] shape : shapes) {
            for (int nodes = 5; nodes <= 199; nodes++) {
                String big = Check.typeOf(nodes).replace("Z", "Any").replace("L<", "A<");
                StringBuilder sb = new StringBuilder("P<a,b,c,d>;A<t>;");
                char last = 'A';
                for (int i = 0; i < shape[0]; i++) {
                    sb.append((char) (last + 1)).append("<t>:").append(last++).append("<t>;");
                }
                char lastWithArgs = last;
                for (int i = 0; i <= shape[1]; i++) {
                    sb.append((char) (last + 1)).append(':').append(last++).append(i == 0 ? "<" + big + ">;" : ";");
                }
                sb.append("X;Y:X,").append(last).append(';');
                BoundTables x = new BoundTables();
                C.due("read of " + sb, Check.fed(x, sb.toString()).read(), 6 + shape[0] + shape[1]);
                for (char c = 'A'; c <= last; c++) {
                    int due = c <= lastWithArgs ? 3 + big.length() : 1;
                    C.due("Y above " + c + " in " + sb, Check.fed(x, "Y above " + c).above(), due);
                    C.due("its first byte", x.written(0), c);
                }
                C.due("Y above X in " + sb, Check.fed(x, "Y above X").above(), 1);
            }
        }
    }

    /** A TYPE in four others with sorts of ARGS that the figures of n tell. */
    private static String chain(int n, String leaf) {
        String text = leaf;
        int left = n;
        for (int i = 0; i < 4; i++) {
            text = "L<" + new String[] {"?:", "?^", ""}[left % 3] + text + ">";
            left /= 3;
        }
        return text;
    }

    private static String chains(int from, String leaf) {
        StringBuilder sb = new StringBuilder("P<");
        for (int i = 0; i < 3; i++) {
            sb.append("P<");
            for (int j = 0; j < 4; j++) {
                sb.append(chain(from + 5 * (4 * i + j), leaf)).append(j < 3 ? "," : ">,");
            }
        }
        return sb.append(leaf).append('>').toString();
    }

    private static String trees(int levels) {
        return levels == 0 ? "Any" : "B<?:" + trees(levels - 1) + ",Z,?>";
    }

    /** BOUNDS with many TYPES that are all others for each NEW variable, in question after question. */
    private static void manyNodes() {
        String first = chains(0, "x");
        String second = chains(3, "x");
        String chain = chain(7, "Y");
        BoundTables x = C.table("Y;Z;L<t>;P<a,b,c,d>;B<x,k,j> with x:B<?,Y," + first + ">&B<?,Z," + second + ">;Q<q>:L<" + chain(7, "q") + ">;");
        String s = "P<B<?,Z,Z>,B<?,Z,Z>,B<?,Z,Z>,Q<Y>>";
        String t = "P<?:" + trees(4) + ",?:" + trees(3) + ",?:" + trees(2) + ",?:L<" + chain + ">>";
        for (int i = 0; i < 4; i++) {
            C.due("a question of many NODES", Check.ask(x, s + "<=" + t), 1);
            C.due("told(2)", x.told(2), 25);
            C.due("told(3)", x.told(3) > 5000 ? 1 : 0, 1);
        }
        C.due("another chain", Check.ask(x, s + "<=" + t.replace(chain, chain(16, "Y"))), 0);
        for (int v : new int[] {0, 13, 24}) {
            BoundTables y = C.table("Y;Z;L<t>;P<a,b,c,d>;B<x,k,j> with x:B<?,Y," + first + ">&B<?,Z," + second + ">;");
            Check.ask(y, s.replace("Q<Y>", "Y") + "<=" + t.replace("?:L<" + chain + ">", "?"));
            bound(y, v, 0, "B<?,Y," + first.replace("x", "#" + v) + ">");
            bound(y, v, 1, "B<?,Z," + second.replace("x", "#" + v) + ">");
        }
    }

    private static void bound(BoundTables x, int v, int what, String type) {
        C.due("variable(" + v + ", " + what + ")", x.variable(v, what), type.length());
        C.longPage("variable(" + v + ", " + what + ")", x, type);
    }
}
