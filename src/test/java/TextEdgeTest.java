/**
 * The sentences of the document's Terms that name an edge of a text, one method for each, with the
 * sentence above it. In each text a ! marks the place of the FAULT that is due.
 */
public final class TextEdgeTest {
    private static final Check C = new Check("TextEdgeTest");
    private static final String ASKED = "Z; L<t>; B<t,u> with t : L<t> : L<u>; P<a,b,c,d>;";

    public static void main(String[] args) {
        tapeOf800();
        tokensOf800();
        firstBytes();
        bytesInNames();
        lastBytes();
        blanks();
        nameLengths();
        words();
        asLongAsMayBe();
        inAny();
        lessAndEqual();
        oneDeclOrMore();
        parametersFirst();
        toldBefore();
        leftFirst();
        longNameFirst();
        tokenBeforeOthers();
        twiceBeforeLimit();
        meaningBeforeLimit();
        limitBeforePlace();
        countBeforeAbove();
        theEnd();
        classes();
        parameters();
        bounds();
        supers();
        nodesOfTables();
        nodesOfQuestions();
        inEightOthers();
        placesOfSeven();
        twoKinds();
        aboveOf200();
        countsOfArgs();
        parameterWithArgs();
        C.end();
    }

    private static void read(String marked, int fault) {
        C.readFault(marked, fault);
    }

    private static void ask(String marked, int fault) {
        C.askFault(C.table(ASKED), marked, fault);
    }

    private static void above(String marked, int fault) {
        C.aboveFault(C.table(ASKED), marked, fault);
    }

    private static void yes(String question) {
        C.due(question, Check.ask(C.table(ASKED), question), 1);
    }

    private static String times(int n, String text) {
        return text.repeat(n);
    }

    /** "THE TAPE has at most 800 bytes." */
    private static void tapeOf800() {
        C.reads("A" + times(798, " ") + ";", 2);
        C.reads(times(798, "\n") + "A;", 2);
        C.reads("A;" + times(798, " "), 2);
        read(times(800, " ") + "!", 2);
        read("A" + times(799, "\n") + "!", 2);
        read(times(799, " ") + "!;", 2);
        read(times(799, " ") + "!7", 1);
        read("A:" + times(790, " ") + "!Abcdefgh", 4);
        read("A:" + times(789, " ") + "!Abcdefghi", 1);
        read("!" + times(800, "a"), 1);
        read("!" + times(800, "<"), 2);
        read("!" + times(800, "?"), 2);
        read("A<t>;A1:A" + times(7, "<A") + "<!A" + times(774, "<"), 6);
        BoundTables x = C.table("A;");
        C.due("a question of 800", Check.ask(x, "A<" + times(796, " ") + "=A"), 1);
        C.due("a place of 800", Check.fed(x, "A above" + times(792, " ") + "A").above(), 1);
        C.askFault(x, times(800, "\n") + "!", 2);
        C.aboveFault(x, "A above" + times(793, " ") + "!", 2);
    }

    /** A right table in which each of the 800 bytes is a token. */
    private static void tokensOf800() {
        StringBuilder sb = new StringBuilder("A<a,b,c,d>;");
        int nested = 0;
        for (char k = 'B'; k <= 'T'; k++) {
            sb.append(k).append("<a,b,c,d>:A<");
            for (int i = 0; i < 4; i++) {
                String arg = nested == 0 ? "A<?:a,b,c,d>" : nested < 41 ? "A<a,b,c,d>" : "a";
                sb.append(i > 0 ? "," : "").append(arg);
                nested++;
            }
            sb.append(">;");
        }
        C.due("its length", sb.length(), 800);
        BoundTables x = C.table(sb.toString());
        C.due("its classes", x.told(4), 21);
        C.due("its nodes", x.told(6), 19 * 5 + 41 * 4 + 1);
    }

    private static boolean isLetter(int b) {
        return "ABCDEFGHIJKLMNOPQRSTUVWXYZabcdefghijklmnopqrstuvwxyz".indexOf(b) >= 0;
    }

    private static boolean isFigure(int b) {
        return "0123456789".indexOf(b) >= 0;
    }

    private static boolean isSign(int b) {
        return "<>,:&?^;=".indexOf(b) >= 0;
    }

    /** "1 a byte that begins no token": each of the 256. */
    private static void firstBytes() {
        for (int b = 0; b < 256; b++) {
            String text = (char) b + "x;";
            BoundTables x = new BoundTables();
            boolean right = isLetter(b) || b == ' ' || b == '\n';
            C.due("read with byte " + b + " first", Check.fed(x, text).read(), right ? 2 : -10);
            C.due("its fault", x.fault(), right ? 0 : isSign(b) ? 2 : 1);
        }
    }

    /** "NAMES, a letter, then letters and figures (letters A .. Z and a .. z)": each of the 256. */
    private static void bytesInNames() {
        for (int b = 0; b < 256; b++) {
            BoundTables x = new BoundTables();
            int got = Check.fed(x, "x" + (char) b + ";").read();
            if (isLetter(b) || isFigure(b)) {
                C.due("read with byte " + b + " in a NAME", got, 2);
                C.due("the NAME", x.cls(1, 3), 'x' * 256 + b);
            } else if (b == ' ' || b == '\n') {
                C.due("read with the blank " + b, got, 2);
                C.due("the NAME", x.cls(1, 3), 'x');
            } else {
                boolean mayStand = b == '<' || b == ':' || b == ';';
                C.due("read with byte " + b + " behind a NAME", got, mayStand ? -12 : -11);
                C.due("its fault", x.fault(), isSign(b) ? 2 : 1);
            }
        }
    }

    private static void lastBytes() {
        for (int b = 0; b < 256; b++) {
            BoundTables x = new BoundTables();
            boolean blank = b == ' ' || b == '\n';
            int got = Check.fed(x, "xy;" + (char) b).read();
            C.due("read with byte " + b + " last", got, blank ? 2 : isLetter(b) ? -14 : -13);
            C.due("its fault", x.fault(), blank ? 0 : isLetter(b) || isSign(b) ? 2 : 1);
        }
    }

    /** "with blanks (32, 10) before, between (where needed, or any) and behind" */
    private static void blanks() {
        C.reads("\n A\n<\nt ,u >\nwith t\n:A <t\n, ? :\nA< ?\n^ u , u> >& Any , u : Any : Any ,\nAny ; \n", 2);
        yes("\nin B :\nL\n<t\n> <\n=\n L < ?\n:t > ");
        C.due("a place", Check.fed(C.table(ASKED), "\nin\nB:\nB<t,\nu>\nabove\nL\n").above(), 4);
        read("A!\tB;", 1);
        read("A;!\r", 1);
        read("A;!\u00a0", 1);
        read("A !B;", 2);
        ask("in!", 2);
        ask("!inB:Z<=Z", 4);
    }

    /** "8 at most": "a NAME that is too long (at its first byte)", wherever a NAME may stand. */
    private static void nameLengths() {
        for (int n = 1; n <= 8; n++) {
            String name = "Abcd5678".substring(0, n);
            BoundTables x = C.table(name + "<" + name + ">;");
            C.due("a class's name of " + n, x.cls(1, 3), Check.packed(name));
            C.due("a PARAMETER's name of " + n, x.parameter(0, 2), Check.packed(name));
        }
        String name = "Abcd56789";
        for (int n = 9; n <= 40; n++) {
            read("!" + name + times(n - 9, "z") + ";", 1);
        }
        read("A<!" + name + ">;", 1);
        read("A<a,!" + name + ">;", 1);
        read("A<a> with !" + name + ":A;", 1);
        read("A<a> with a:!" + name + ";", 1);
        read("A<a> with a:A<a>&!" + name + ";", 1);
        read("A:!" + name + ";", 1);
        read("A:Any,!" + name + ";", 1);
        read("A<a> with a:A<?:!" + name + ">;", 1);
        read("A;!" + name, 1);
        ask("in !" + name + ":Z<=Z", 1);
        ask("!" + name + "<=Z", 1);
        ask("Z<=!" + name, 1);
        ask("L<!" + name + "><=Z", 1);
        above("in !" + name + ":Z above Z", 1);
        above("!" + name + " above Z", 1);
        above("Z above !" + name, 1);
    }

    /** "of these in, with and above are WORDS" */
    private static void words() {
        for (String word : new String[] {"in", "with", "above"}) {
            read("!" + word + ";", 2);
            read("A<!" + word + ">;", 2);
            read("A<a> with !" + word + ":Any;", 2);
            read("A:!" + word + ";", 2);
            read("A<a>;B:A<!" + word + ">;", 2);
            ask("in !" + word + ":Z<=Z", 2);
            ask("Z<=!" + word, 2);
            above("Z above !" + word, 2);
        }
        for (String name : new String[] {"In", "iN", "i", "inn", "in1", "With", "wit", "withs", "with0", "Above", "abov", "aboves", "ABOVE"}) {
            C.reads(name + "<" + name + "> with " + name + ":" + "Any;", 2);
        }
        read("A !in;", 2);
        read("A !above;", 2);
        ask("Z !with", 2);
        above("Z !in Z", 2);
    }

    /** "TOKENS, as long as may be" */
    private static void asLongAsMayBe() {
        C.reads("A<t>with t:Any;Awith;", 3);
        read("A<t>!witht:Any;", 2);
        above("!Zabove Z", 4);
        above("Z !aboveZ", 2);
        C.due("no blank needed", Check.fed(C.table(ASKED), "L<Z>above L").above(), 4);
        ask("!inZ:Z<=Z", 4);
        C.due("1 behind a sign", Check.ask(C.table("A1;"), "A1<=A1"), 1);
        ask("Z<=Z!<=", 2);
    }

    /** "[ in NAME : ]": ANY is a class too, without PARAMETERS. */
    private static void inAny() {
        yes("in Any:Z<=Z");
        yes("in Any:L<?><=L<?:Any>");
        ask("in Any:!t<=Z", 4);
        C.due("a place", Check.fed(C.table(ASKED), "in Any:B<Z,L<Z>> above L").above(), 7);
        C.due("a new object", Check.ask(new BoundTables(), "in Any:Any<=Any"), 1);
    }

    /** "TYPE < = TYPE (two signs)"; "a < with = as the next token is none of a TYPE" */
    private static void lessAndEqual() {
        yes("Z<=Z");
        yes("Z < = Z");
        yes("Z<\n\n=Z");
        ask("Z!=Z", 2);
        ask("Z!=<Z", 2);
        ask("Z<=!=Z", 2);
        ask("Z<=!<Z", 2);
        ask("L!<=Z", 5);
        ask("L<Z!<=Z>", 2);
        ask("L<?!<=Z>", 2);
        ask("in B:L<t!<=Z>", 2);
        ask("in B:t<=t!<=t", 2);
        ask("Z<=L!<=Z", 2);
        yes("in B:t<=Any");
        read("A<!=", 2);
        read("A<t>!<=", 2);
        read("A<t> with t:A!<=A;", 2);
        read("A:Any!< =Any;", 2);
    }

    /** "table: one DECL or more" */
    private static void oneDeclOrMore() {
        read("!", 2);
        read(" !", 2);
        read("\n\n!", 2);
        read("!;", 2);
        C.reads("A;", 2);
        read("A;!;", 2);
        read("A;B!", 2);
    }

    /** "A NAME in a TYPE is a PARAMETER of the class that is told, if it has one of that NAME" */
    private static void parametersFirst() {
        BoundTables x = C.table("A<t>;B<A,Any>with A:B<Any,A>;C<B>:A<B>;D<D>:A<D>;");
        C.due("way from A to Any", x.way(1, 2), 1);
        C.due("way from Any to A", x.way(2, 1), 1);
        C.due("way from B to t", x.way(3, 0), 1);
        C.due("way from D to t", x.way(4, 0), 1);
        C.due("in B:Any<=A", Check.ask(x, "in B:Any<=A"), 0);
        C.due("in B:A<=B<Any,A>", Check.ask(x, "in B:A<=B<Any,A>"), 1);
        C.askFault(x, "in B:A!<Any><=A", 5);
        C.due("A<Any><=A<Any>", Check.ask(x, "A<Any><=A<?:Any>"), 1);
        C.due("a PARAMETER Any is not ANY", Check.ask(x, "in B:C<Any><=C<?:A>"), 0);
        read("A<t>;B<A>:!A;", 7);
        read("A<t>;B<A>with A:!A;", 7);
    }

    /** "else a class that was told before, or that is told just now" */
    private static void toldBefore() {
        read("A:!B;B;", 4);
        read("A<t>;B:A<!C>;C;", 4);
        C.reads("A<t>;B:A<B>;", 3);
        C.reads("A<t> with t:A<t>;", 2);
        read("A<t>;B:A<!t>;", 4);
        C.askFault(C.table("A<t>;B<u>;"), "in A:!u<=t", 4);
        C.askFault(C.table("A<t>;B<u>;"), "A<!t><=Any", 4);
        C.askFault(C.table("A;"), "A<=!B", 4);
        C.askFault(C.table("A<t>;"), "in !t:A<t><=A<t>", 4);
        C.aboveFault(C.table("A<t>;"), "in A:t above !t", 4);
    }

    /** "FAULTS, the first from the left" */
    private static void leftFirst() {
        read("A:!?; #", 2);
        read("!Any; #", 3);
        read("A:!B; #", 4);
        read("A<t>;B:A!; #", 5);
        read("A<a,b,c,d,!e>; #", 6);
        read("A:!A; #", 7);
        read("A<t>;B:A<A<?>>,A<Any>!; #", 8);
        read("A<t>;B:A<A<?>>,A<!C>;", 4);
        read("A<t>;B:A<A!>,A<Any,Any>;", 5);
        read("A<t>;B:A<!?,#>;", 7);
        read("A<t>;B<t>:A<t!<u>>;", 5);
        read("!abcdefghi;abcdefghij", 1);
        ask("L<!Y>< <=", 4);
        above("!Y above Y", 4);
    }

    /** "Of one token by code": 1 before all others. */
    private static void longNameFirst() {
        String twenty = twentyClasses();
        read(twenty + "!abcdefghi;", 1);
        read("A<a,b,c,d,!abcdefghi>;", 1);
        read("A<t> with t:Any&Any&!abcdefghi;", 1);
        read("A:Any,Any,Any,Any,!abcdefghi;", 1);
        read("L<t>;B:L<L<L<L<L<L<L<L<!abcdefghi>>>>>>>>;", 1);
        read("A<t>;B:A!#", 1);
        read("A<t>;B:A<A!.>;", 1);
        read("A<t>;B:A<A<?>>,A<Any>!#;", 1);
        ask("L!#", 1);
        ask("Z<=L!#", 1);
        above("L<Z,Z>!# above Z", 1);
    }

    /** 2 before 5, 6 and 8: a token that can't stand there. */
    private static void tokenBeforeOthers() {
        read("A<t>;B:A!&Any;", 2);
        read("A<t>;B:A<Any,Any>!>;", 2);
        read("A<t>;B:A!", 2);
        read("A<t>;B:A<A!;", 2);
        read("A<t>;B<u> with u:A!>;", 2);
        read("A<a,b,c,d,!;", 2);
        read("A<t> with t:Any&Any&!?;", 2);
        read("A:Any,Any,Any,Any,!?;", 2);
        read("L<t>;B:L<L<L<L<L<L<L<L<!;>>>>>>>>;", 2);
        read(twentyClasses() + "!with;", 2);
        ask("L!>", 2);
        ask("L !above Z", 2);
        ask("Z<=L!;", 2);
        above("L!<=Z", 2);
        above("L!", 2);
    }

    private static String twentyClasses() {
        StringBuilder sb = new StringBuilder();
        for (char c = 'A'; c < 'A' + 20; c++) {
            sb.append(c).append(';');
        }
        return sb.toString();
    }

    /** 3 before 6. */
    private static void twiceBeforeLimit() {
        read(twentyClasses() + "!T;", 3);
        read(twentyClasses() + "!Any;", 3);
        read("A<a,b,c,d,!d>;", 3);
    }

    /** 4 before 6. */
    private static void meaningBeforeLimit() {
        read("A<t> with t:Any&Any&!u;", 4);
        read("A:Any,Any,Any,Any,!B;", 4);
        read("L<t>;B:L<L<L<L<L<L<L<L<!C>>>>>>>>;", 4);
        ask("L<L<L<L<L<L<L<L<!C>>>>>>>><=Z", 4);
    }

    /** 6 before 7. */
    private static void limitBeforePlace() {
        read("A<t> with t:Any&Any&!t;", 6);
        read("A<t>:Any,Any,Any,Any,!t;", 6);
        read("A<t>:Any,Any,Any,Any,!A<t>;", 6);
        read("L<t>;B<t>:" + deep(8, "!t") + ";", 6);
        read(tableOf(300) + "R:!R;", 6);
        read(tableOf(299) + "R:L<!?>;", 6);
        read(tableOf(298) + "R:L<!?>;", 7);
    }

    /** 5 before 8. */
    private static void countBeforeAbove() {
        read("A<t>;B:A<Any>,A<A<Any>>,A!;", 5);
        read("A<t>;B:A<Any>,A<A<Any>>,Any<A<?>>!;", 5);
    }

    /** "or the end (the length)" */
    private static void theEnd() {
        for (String start : new String[] {"", "A", "A<", "A<t", "A<t,", "A<t>", "A<t> with", "A<t> with t", "A<t> with t:",
                "A<t> with t:A", "A<t> with t:A<", "A<t> with t:A<t", "A<t> with t:A<t,", "A<t> with t:A<?", "A<t> with t:A<?:",
                "A<t> with t:A<?^", "A<t> with t:A<?:t", "A<t> with t:A<t>", "A<t> with t:A<t>&", "A<t> with t:A<t>,",
                "A<t> with t:A<t>:", "A<t>:", "A:Any", "A:Any,", "A;B", "A;B:A"}) {
            read(start + "!", 2);
            read(start + " \n!", 2);
        }
        for (String start : new String[] {"", "in", "in B", "in B:", "Z", "Z<", "L<Z", "L<Z,", "L<?", "L<?:", "L<?^", "L<?:Z", "L<Z>",
                "Z<=", "Z<=L<", "Z<=L<Z", "Z<=L<?", "in B:t", "in B:t<="}) {
            ask(start + "!", 2);
            ask(start + "\n !", 2);
        }
        for (String start : new String[] {"", "in", "in B", "in B:", "in B:t", "Z", "L<Z", "L<Z>", "Z above"}) {
            above(start + "!", 2);
            above(start + "  !", 2);
        }
    }

    /** "6 a 21st class besides ANY (at the token with which it begins)" */
    private static void classes() {
        C.reads(twentyClasses(), 21);
        read(twentyClasses() + "!U;", 6);
        read(twentyClasses() + "\n !U<", 6);
        read(twentyClasses() + "!U", 6);
    }

    /** "a 5th PARAMETER" */
    private static void parameters() {
        BoundTables x = C.table("A<a,b,c,d>;B<a,b,c,d>;");
        C.due("PARAMETERS of A", x.cls(1, 0), 4);
        C.due("the first of B", x.cls(2, 4), 4);
        read("A<a,b,c,d,!e", 6);
        read("A<a,b,c,d, !e,f>;", 6);
        read("A<a,b,c,d>;B<a,b,c,d,!A>;", 6);
    }

    /** "a 3rd TYPE of one PARAMETER" */
    private static void bounds() {
        BoundTables x = C.table("A<t,u> with t:Any&Any,u:Any&A<t,u>;");
        C.due("BOUNDS of t", x.parameter(0, 1), 2);
        C.due("BOUNDS of u", x.parameter(1, 1), 2);
        read("A<t,u> with t:Any&Any&!Any,u:Any;", 6);
        read("A<t,u> with t:Any,u:Any&Any&!A;", 6);
    }

    /** "a 5th one behind the : of a DECL" */
    private static void supers() {
        BoundTables x = C.table("A;B:Any,A,A,Any;C:B,B,B,B;");
        C.due("TYPES behind the : of B", x.cls(2, 1), 4);
        C.due("TYPES behind the : of C", x.cls(3, 1), 4);
        read("A;B:Any,A,A,Any,!A;", 6);
        read("A;B:Any,A,A,Any,!A", 6);
        read("A<t>;B:Any,Any,Any,Any,!A<#", 6);
    }

    private static String tableOf(int nodes) {
        return "Z;L<t>;P<a,b,c,d>;Q<x>with x:" + Check.typeOf(nodes) + ";";
    }

    /** "a 301st NODE of one text (each TYPE and each ? is one; at its first token)" */
    private static void nodesOfTables() {
        for (int nodes = 1; nodes <= 300; nodes += nodes < 290 ? 17 : 1) {
            C.due("NODES of a table", C.table(tableOf(nodes)).told(6), nodes);
        }
        read(tableOf(300) + "R:!Z;", 6);
        read(tableOf(300) + "R<y> with y:!L<y>;", 6);
        read(tableOf(299) + "R<y> with y:L<!y>;", 6);
        read(tableOf(299) + "R<y> with y:L<!?>;", 6);
        read(tableOf(299) + "R<y> with y:L<!?:Z>;", 6);
        read(tableOf(298) + "R<y> with y:L<?:!Z>;", 6);
        read(tableOf(298) + "R<y> with y:L<?^!Z>;", 6);
        read(tableOf(298) + "R:Z,Z,!Z;", 6);
        C.due("two more", C.table(tableOf(298) + "R:Z,Z;S<y>;").told(6), 300);
        C.due("three more", C.table(tableOf(297) + "R<y> with y:L<?:Z>;").told(6), 300);
        read(tableOf(301).replace("Z>>>>;", "!Z>>>>;"), 6);
    }

    private static void nodesOfQuestions() {
        String table = "Z;L<t>;P<a,b,c,d>;";
        C.due("a question of 300", Check.ask(C.table(table), Check.typeOf(295) + "<=" + "P<?,?,?,?>"), 1);
        C.due("another one", Check.ask(C.table(table), "Z<=" + Check.typeOf(299)), 0);
        C.due("one with a ? last", Check.ask(C.table(table), Check.typeOf(298) + "<=L<?>"), 0);
        C.askFault(C.table(table), Check.typeOf(300) + "<=!Z", 6);
        C.askFault(C.table(table), Check.typeOf(299) + "<=L<!?>", 6);
        C.askFault(C.table(table), Check.typeOf(298) + "<=L<?:!Z>", 6);
        C.askFault(C.table(table), Check.typeOf(296) + "<=P<?,?,?,!?>", 6);
        C.askFault(C.table(table), "Z<=" + Check.typeOf(300).replace("Z>>>>", "!Z>>>>"), 6);
        C.due("a place of 300", Check.fed(C.table(table), Check.typeOf(300) + " above Any").above(), 3);
        C.aboveFault(C.table(table), Check.typeOf(301).replace("Z>>>>", "!Z>>>>") + " above Any", 6);
    }

    private static String deep(int around, String leaf) {
        return around == 0 ? leaf : "L<" + deep(around - 1, leaf) + ">";
    }

    private static String deepBehind(int around, String sort, String leaf) {
        return around == 0 ? leaf : "L<" + sort + deepBehind(around - 1, sort, leaf) + ">";
    }

    /** "a TYPE in eight others (at its NAME; behind ? too)" */
    private static void inEightOthers() {
        String start = "Z;L<t>;A<t>";
        C.reads(start + ":" + deep(7, "t") + ";", 4);
        C.reads(start + "with t:" + deep(7, "t") + ":" + deep(7, "Z") + ";", 4);
        C.reads(start + ":" + deep(8, "?") + ";", 4);
        read(start + ":" + deep(8, "!t") + ";", 6);
        read(start + ":" + deep(8, "!Z") + ";", 6);
        read(start + ":" + deep(8, "!L<t>") + ";", 6);
        read(start + ":" + deep(8, "?:!t") + ";", 6);
        read(start + "with t:" + deep(8, "!t") + ";", 6);
        for (String sort : new String[] {"?:", "?^"}) {
            C.reads(start + "with t:" + deepBehind(7, sort, "t") + ";", 4);
            read(start + "with t:" + deepBehind(8, sort, "!t") + ";", 6);
            ask(deepBehind(8, sort, "!Z") + "<=Z", 6);
            C.due("seven", Check.ask(C.table(ASKED), deepBehind(7, sort, "Z") + "<=L<?>"), 1);
        }
        yes(deep(7, "Z") + "<=" + deep(7, "Z"));
        yes(deep(8, "?") + "<=" + deep(8, "?"));
        ask(deep(8, "!Z") + "<=Z", 6);
        ask("Z<=" + deep(8, "!Z"), 6);
        ask("in B:Z<=" + deep(8, "!t"), 6);
        above(deep(8, "!Z") + " above Z", 6);
        above(deep(8, "?^!Z") + " above Z", 6);
        C.due("a place", Check.fed(C.table(ASKED), deep(7, "Z") + " above L").above(), 7 * 3 + 1);
        read(start + ":L<Z>," + deep(8, "!Z") + ";", 6);
        ask("P<Z,L<Z>,Z," + deep(7, "!Z") + "><=Z", 6);
    }

    /** "7 behind the : of a DECL a PARAMETER or the class itself, or a ? of which it is an ARG (not, in an ARG)" */
    private static void placesOfSeven() {
        read("A<t>:!t;", 7);
        read("A<t>:Any,!t,A;", 7);
        read("A<t>:!t<Any>;", 7);
        read("A:!A;", 7);
        read("A<t>:!A<t>;", 7);
        read("A:Any,!A", 7);
        read("A<t>;B:A<!?>;", 7);
        read("A<t,u>;B:A<Any,!?:Any>;", 7);
        read("A<t,u>;B:Any,A<!?^Any,?>;", 7);
        C.reads("A<t>;B<t>:A<t>;C<t>:A<C<t>>;D:A<D>;E<t>:A<A<?>>;F:A<A<?:F>>;G<t>:A<A<?^t>>;", 8);
        read("A<t> with t:!t;", 7);
        read("A<t,u> with t:!u;", 7);
        read("A<t,u> with u:Any&!t;", 7);
        read("A<t,u> with t:!u<Any>;", 7);
        C.reads("A<t> with t:A<t>;B<t> with t:B<?>&A<?:t>;C<t,u> with t:A<u>,u:C<?,?^t>;", 4);
    }

    /** "8 at the ; of a DECL: the class would have one class above it with two kinds of ARGS" */
    private static void twoKinds() {
        String start = "X;Y;A<t>;B<t>:A<t>;C<t,u>:A<u>;";
        read(start + "D:A<X>,A<Y>!;", 8);
        read(start + "D:A<X>,A<Y>, X \n !; #", 8);
        read(start + "D:B<X>,A<Y>!;", 8);
        read(start + "D:A<Y>,B<X>!;", 8);
        read(start + "D:B<X>,C<X,Y>!;", 8);
        read(start + "D:B<X>,B<Y>!;", 8);
        read(start + "D<t>:B<t>,A<X>!;", 8);
        read(start + "D<t,u>:B<t>,A<u>!;", 8);
        read(start + "D:A<D>,A<X>!;", 8);
        read(start + "D:A<A<?>>,A<A<X>>!;", 8);
        read(start + "D:A<A<?>>,A<A<?:Any>>!;", 8);
        read(start + "D:A<A<?:X>>,A<A<?^X>>!;", 8);
        read(start + "D:A<A<?:X>>,A<A<?:Y>>!;", 8);
        read(start + "D:A<A<?:X>>,A<A<X>>!;", 8);
        read(start + "D:C<X,Y>;E:D,A<X>!;", 8);
        read(start + "D:C<X,Y>,C<Y,Y>!;", 8);
        C.reads(start + "D:B<X>,A<X>,C<Y,X>,B<X>;E:D,A<X>;F:E,D;", 9);
        C.reads(start + "D<u>:B<A<?:u>>,A<A<?:u>>,C<u,A<?:u>>,X;", 7);
    }

    /** "or a TYPE above it with more than 200 NODES" */
    private static void aboveOf200() {
        String start = "Z;L<t>;P<a,b,c,d>;M<x>:L<x>;";
        C.reads(start + "A:L<" + Check.typeOf(199) + ">;", 6);
        read(start + "A:L<" + Check.typeOf(200) + ">!;", 8);
        C.reads(start + "A:M<" + Check.typeOf(199) + ">;B:A;", 7);
        read(start + "A:M<" + Check.typeOf(200) + ">!;", 8);
        String doubled = start + "D<x>:P<x,x,Z,Z>;";
        C.reads(doubled + "A:D<" + Check.typeOf(98) + ">;", 7);
        read(doubled + "A:D<" + Check.typeOf(99) + ">!;", 8);
        String of98 = doubled + "A<y>:D<P<y,?,?," + Check.argOf(94) + ">>;";
        C.reads(of98 + "B:A<Z>;", 8);
        read(of98 + "B:A<L<Z>>!;", 8);
        String most = doubled + "E<x>:D<P<x,x,x,x>>;";
        C.reads(most + "F<x>:E<P<x,x,x,x>>;G<x>:F<P<x,x,x,x>>;", 9);
        read(most + "F<x>:E<P<x,x,x,x>>;G<x>:F<P<x,x,x,L<x>>>!;", 8);
    }

    /** "5 a TYPE with other many ARGS than parameters (at the token behind it)" */
    private static void countsOfArgs() {
        String[] types = {"Z<Z>", "Z<?>", "L", "L<Z,Z>", "L<?,?>", "B<Z>", "B", "B<Z,Z,Z>", "P", "P<Z>", "P<Z,Z,Z>", "P<Z,Z,Z,Z,Z>",
            "P<?,?,?,?,?,?>", "Any<Any>"};
        for (String type : types) {
            if (type.indexOf('?') < 0) {
                read(ASKED + "K:" + type + "!;", 5);
                read(ASKED + "K:" + type + "!,Z;", 5);
            }
            read(ASKED + "K:L<" + type + "!>;", 5);
            read(ASKED + "K<t>with t:" + type + " !&Z;", 5);
            read(ASKED + "K<t>with t:" + type + "!:Z;", 5);
            read(ASKED + "K<t,u>with t:" + type + "!,u:Z;", 5);
            read(ASKED + "K<t>with t:L<?:" + type + "!>;", 5);
            ask(type + "!<=Z", 5);
            ask("Z<=" + type + "!", 5);
            ask("Z<=" + type + " \n!", 5);
            ask("Z<=P<?,?^" + type + "!,?,?>", 5);
            above(type + " !above Z", 5);
        }
        read("A<t>with t:A!;", 5);
        read("A<t,u>with t:A<t>!;", 5);
    }

    /** "a PARAMETER with < (at the <)" */
    private static void parameterWithArgs() {
        read("A<t>with t:A<t!<t>>;", 5);
        read("A<t>with t:A<?:t !< t>>;", 5);
        read("A<t>;B<A>with A:B<A!<", 5);
        ask("in B:t!<Z><=Z", 5);
        ask("in B:L<u!<", 5);
        ask("in B:Z<=t!<", 5);
        ask("in B:t \n!<\n#", 5);
        above("in B:u!<Z> above Z", 5);
    }
}
