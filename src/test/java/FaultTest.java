/** Promises 3 and 4: the faults and their places. In each text a ! marks the place that is due. */
public final class FaultTest {
    private static final Check C = new Check("FaultTest");
    private static final String TABLE = "Z; L<t>; B<t,u> with t : L<t> : L<u>; M<M,Any> : B<M,Any>;";

    public static void main(String[] args) {
        right();
        bytesAndNames();
        tokens();
        toldTwice();
        meanNothing();
        args();
        limits();
        nodes();
        places();
        twoKinds();
        tooBigAbove();
        firstOfOneToken();
        questions();
        placesAbove();
        C.end();
    }

    private static void read(String marked, int fault) {
        C.readFault(marked, fault);
    }

    private static void reads(String text, int classes) {
        C.reads(text, classes);
    }

    private static void ask(String marked, int fault) {
        C.askFault(C.table(TABLE), marked, fault);
    }

    private static void above(String marked, int fault) {
        BoundTables x = C.table(TABLE);
        Check.fed(x, "Z above Z").above();
        C.aboveFault(x, marked, fault);
        C.due("the page behind " + marked, Check.page(x), "Z");
    }

    private static void right() {
        reads("A;", 2);
        reads(" \n A \n ; \n ", 2);
        reads("A<t>;B<t,u>with t:A<t>&B<?,?:A<?^u>>,u:A<u>:A<A<B<t,u>>>,Any;", 3);
        reads("A<A>;B<Any> with Any : B<Any> : A<Any>;", 3);
        reads("A;B:A,A,A,A;", 3);
        reads("a1;A1:a1;abcdefgh;abcdefg9:abcdefgh;", 5);
        reads("In;With;Above;INin;", 5);
        reads("A<t>;B:A<Any>,A<Any>;C:B,A<Any>;", 4);
    }

    private static void bytesAndNames() {
        read("!1;", 1);
        read("A;!#", 1);
        read("A;!\u00e9", 1);
        read("A;!\t", 1);
        read("A;!\0", 1);
        read("!abcdefghi;", 1);
        read("A : !Abcdefgh1;", 1);
        read("A<!abcdefghi>;", 1);
        read("A;B!.", 1);
        read("A ; B : A !- ;", 1);
    }

    private static void tokens() {
        read("!", 2);
        read("  \n!", 2);
        read("A!", 2);
        read("A \n!", 2);
        read("A;!;", 2);
        read("!<", 2);
        read("!in;", 2);
        read("A:!with;", 2);
        read("A<!above>;", 2);
        read("A<!>;", 2);
        read("A<t!;", 2);
        read("A<t!<u>>;", 2);
        read("A<!=t>;", 2);
        read("A<t>!<u>;", 2);
        read("A<t>!,", 2);
        read("A with !;", 2);
        read("A<t> with t!;", 2);
        read("A<t> with t:!;", 2);
        read("A<t> with t:Any,!;", 2);
        read("A<t> with t:Any&!;", 2);
        read("A<t> with t:Any !with t:Any;", 2);
        read("A:!;", 2);
        read("A:Any,!;", 2);
        read("A:Any!&Any;", 2);
        read("A:Any!:Any;", 2);
        read("A:!?;", 2);
        read("A<t> with t:!?;", 2);
        read("A<t>;B:A<Any!;", 2);
        read("A<t>;B:A<!>;", 2);
        read("A<t>;B:A<Any,!>;", 2);
        read("A<t>;B<t> with t:A<?!?>;", 2);
        read("A<t>;B<t> with t:A<?:!>;", 2);
        read("A<t>;B<t> with t:A<?^!?>;", 2);
        read("A<t>;B<t> with t:A<?!&>;", 2);
        read("A<t>;B<t> with t:A<?:Any!:Any>;", 2);
        read("A!=", 2);
        read("A !B;", 2);
    }

    private static void toldTwice() {
        read("A;!A;", 3);
        read("!Any;", 3);
        read("A<t,!t>;", 3);
        read("A<Any,!Any>;", 3);
        read("A<t> with t:Any,!t:Any;", 3);
        read("A<t,u> with t:Any,u:Any&Any,!t:Any;", 3);
    }

    private static void meanNothing() {
        read("A:!B;B;", 4);
        read("A with !t:Any;", 4);
        read("A<t> with !A:Any;", 4);
        read("A<t>;B with !t:A;", 4);
        read("A<t>;B:A<!t>;", 4);
        read("A<t>;B:A<A<!C>>;", 4);
        read("A<t> with t:A<?:!u>;", 4);
    }

    private static void args() {
        read("A<t>;B:A!;", 5);
        read("A<t>;B:A!,A<Any>;", 5);
        read("A<t>;B:A<Any,Any>!;", 5);
        read("A;B:A<Any>!;", 5);
        read("A<t>;B:A<Any<A<Any>>!>;", 5);
        read("A<t,u>;B<t> with t:A<?>!&Any;", 5);
        read("A<t,u>;B<t> with t:A<?,?,?>!;", 5);
        read("A<t,u>;B<t> with t:A<?,?:A!>;", 5);
        read("A<t>;B<x> with x:A<?:A!,?>;", 5);
        read("A<t>;B<t> : A<t!<Any>>;", 5);
        read("A<t> with t:A<t!<abcdefghi>>;", 5);
        read("A<t,u,v,w>;B<t> with t:A<?,?,?,?,?,?,?,?>!;", 5);
    }

    private static void limits() {
        StringBuilder twenty = new StringBuilder();
        for (char c = 'A'; c < 'A' + 20; c++) {
            twenty.append(c).append(';');
        }
        reads(twenty.toString(), 21);
        read(twenty + "!U;", 6);
        read(twenty + "!A;", 3);
        read(twenty + "!;", 2);
        reads("A<a,b,c,d>;", 2);
        read("A<a,b,c,d,!e>;", 6);
        read("A<a,b,c,d,!a>;", 3);
        read("A<t> with t:Any&Any&!Any;", 6);
        read("A<t> with t:Any&Any&!X;", 4);
        read("A<t> with t:Any&Any&!t;", 6);
        read("A:Any,Any,Any,Any,!Any;", 6);
        read("A:Any,Any,Any,Any,!A;", 6);
        read("A:Any,Any,Any,Any,!X;", 4);
        reads("L<t>;B:L<L<L<L<L<L<L<Any>>>>>>>;", 3);
        read("L<t>;B:L<L<L<L<L<L<L<L<!Any>>>>>>>>;", 6);
        reads("L<t>;B<t> with t:L<L<L<L<L<L<L<L<?>>>>>>>>;", 3);
        read("L<t>;B<t> with t:L<L<L<L<L<L<L<L<?:!Any>>>>>>>>;", 6);
        read("L<t>;B<t> with t:L<?:L<?^L<?:L<?^L<?:L<?^L<?:L<!t>>>>>>>>;", 6);
        reads("L<t>;B<t> with t:L<?:L<?^L<?:L<?^L<?:L<?^L<t>>>>>>>;", 3);
    }

    private static String nest(int levels, String leaf) {
        String in = levels == 1 ? leaf : nest(levels - 1, leaf);
        return "P<" + in + "," + in + "," + in + "," + in + ">";
    }

    /** 3 times 85, twice 21 and 3 alone are 300. */
    private static void nodes() {
        String start = "P<a,b,c,d>;Q<a,b,c,d>with a:" + nest(3, "?") + "&" + nest(3, "a") + ",b:" + nest(3, "b") + "&"
                + nest(2, "?") + ",c:" + nest(2, "?") + ":Any,Any,Any;";
        BoundTables x = C.table(start);
        C.due("300 nodes", x.told(6), 300);
        read(start + "R:!Any;", 6);
        read(start + "R:!X;", 4);
        read(start + "R:!R;", 6);
        read("P<a,b,c,d>;Q<a,b,c,d>with a:" + nest(3, "?") + "&" + nest(3, "a") + ",b:" + nest(3, "b") + "&"
                + nest(2, "?") + ",c:" + nest(2, "?") + "&P<?,?,!?,?>;", 6);
        String s = nest(3, "?") + "<=" + nest(3, "?").replace("P<?,?,?,?>", "P<?,?,?:Any,?>");
        BoundTables y = C.table("P<a,b,c,d>;");
        C.due("85 and 101 nodes", Check.ask(y, s), 0);
        String big = "P<" + nest(3, "?") + "," + nest(3, "?") + "," + nest(3, "?") + ",P<P<?,?,?,?>,P<?,?,?,?>,P<?,?,?,?>,"
                + "P<P<?,?,?,?>,P<?,?,?,?>,P<?,?,?,?>,?>>>";
        C.due("a question of 300 nodes", Check.ask(y, big + "<=P<?,?:P<?,?,?,?>,?,?:Any>"), 1);
        String marked = big + "<=P<P<?,?,?,?>,P<?,?,?,?>,!?,?>";
        C.due("one of 301", Check.ask(y, marked.replace("!", "")), -10 - marked.indexOf('!'));
        C.due("its fault", y.fault(), 6);
    }

    private static void places() {
        read("A:!A;", 7);
        read("A<t>:!t;", 7);
        read("A<t>:!A<t>;", 7);
        read("A<A>:!A;", 7);
        read("A<t>;B:A<!?>;", 7);
        read("A<t>;B:A<!?:Any>;", 7);
        read("A<t,u>;B:A<Any,!?^Any>;", 7);
        read("A<t,u> with t:!u;", 7);
        read("A<t> with t:!t;", 7);
        read("A<t> with t:Any&!t;", 7);
        reads("A<t>;B:A<A<?>>;C<t>:A<t>;D:A<D>;E<t> with t:E<t>&A<?:t>;", 6);
    }

    private static void twoKinds() {
        read("A<t>;B;C:A<B>,A<Any>!;", 8);
        read("A<t>;B<t>:A<t>;C:B<Any>,A<C> !;", 8);
        read("A<t>;B<t>:A<t>;C<t,u>:B<t>,A<u>!;", 8);
        read("A<t>;B:A<A<?>>,A<A<?:Any>>!;", 8);
        read("A<t>;B:A<A<?^Any>>,A<A<?:Any>>!;", 8);
        reads("A<t>;B<t>:A<t>;C<t>:A<t>;D<x>:B<x>,C<x>,A<x>,Any;", 5);
    }

    /** 85 nodes with 64 PARAMETERS become 85 + 64 (n - 1) with n in their place. */
    private static void tooBigAbove() {
        String start = "P<a,b,c,d>;Q<x>:" + nest(3, "x") + ";V<x>;";
        reads(start + "R<x>:Q<V<x>>;", 5);
        read(start + "R<x>:Q<V<V<x>>>!;", 8);
        String most = "P<a,b,c,d>;V<x>;W<x,y>;R<y>:P<" + nest(3, "y") + "," + nest(3, "y") + "," + nest(2, "y") + ",W<V<V<y>>,";
        BoundTables x = C.table(most + "V<V<V<y>>>>>;S<y>:R<y>;");
        Check.fed(x, "R<Any> above P").above();
        C.due("nodes of what is above R", x.told(3), 200);
        Check.fed(x, "S<Any> above P").above();
        C.due("nodes of what is above S", x.told(3), 200);
        read(most + "V<V<V<V<y>>>>>>!;", 8);
        read(most + "V<V<V<y>>>>>;S<y>:R<V<y>>!;", 8);
    }

    private static void firstOfOneToken() {
        read("A<t>;B:A<Any>,A<B>,A!;", 5);
        read("A<t>;B:A!", 2);
        read("A<t>;B:A!#", 1);
        read("A<t>;B:A!&;", 2);
        read("A<t>;B:A!<=Any;", 2);
        read("A<t>;B<t>:A<t!<=Any>;", 2);
        read("A<t>;B<t>:A<t !< \n = Any>;", 2);
        read("A:Any!<=Any;", 2);
    }

    private static void questions() {
        C.due("in B", Check.ask(C.table(TABLE), " in B : t <\n= L < t > "), 1);
        C.due("in M", Check.ask(C.table(TABLE), "in M:B<M,Any><=L<?>"), 1);
        ask("!", 2);
        ask(" \n!", 2);
        ask("!1", 1);
        ask("!t<=Z", 4);
        ask("Z<=!t", 4);
        ask("in !t:Z<=Z", 4);
        ask("in !in:Z<=Z", 2);
        ask("in B !Z<=Z", 2);
        ask("in B:!in Z:Z<=Z", 2);
        ask("in B:!Q<=Z", 4);
        ask("in B:t!<Z><=Z", 5);
        ask("in B:Z<=t!<Z>", 5);
        ask("in B:t!", 2);
        ask("in B:t!>", 2);
        ask("in B:t!<t", 5);
        ask("in B:t<=!", 2);
        ask("in B:t<=!=", 2);
        ask("Z<=Z!<=Z", 2);
        ask("Z<=Z!;", 2);
        ask("Z<=Z !#", 1);
        ask("Z<=L!", 5);
        ask("Z<=L \n!", 5);
        ask("L!<=Z", 5);
        ask("L<Z,Z>!<=Z", 5);
        ask("L<Z><!Z>", 2);
        ask("L<Z><!#", 1);
        ask("Z<Z>!<=Z", 5);
        ask("Z<!", 2);
        ask("L<L!<=Z><=Z", 2);
        ask("Z !above Z", 2);
        ask("L<?:L<?:L<?:L<?:L<?:L<?:L<?:L<?:!Z>>>>>>>><=Z", 6);
        ask("in Z:!t<=Z", 4);
        ask("!above<=Z", 2);
    }

    private static void placesAbove() {
        above("!", 2);
        above("Z!", 2);
        above("Z above!", 2);
        above("Z above !above", 2);
        above("Z above Z!;", 2);
        above("Z above Z !Z", 2);
        above("L<Z>above L!<Z>", 2);
        above("Z above !Y", 4);
        above("in B:t above !t", 4);
        above("in B:!Y above Z", 4);
        above("L !above Z", 5);
        above("L<Z,Z> !above Z", 5);
        above("L!#", 1);
        above("Z!<=Z", 2);
        above("in B:t!<=Z", 2);
        above("in B:t!<Z> above Z", 5);
        above("Z above !abcdefghi", 1);
    }
}
