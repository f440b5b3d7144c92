/** Promises 9 and 10: which TYPE is below which, and what was asked on the way. */
public final class QuestionTest {
    private static final Check C = new Check("QuestionTest");
    private static final String TABLE = "Num; Int : Num; Nat : Int; Coll<E>; List<E> : Coll<E>; Map<K,V> : Coll<V>;"
            + " Fun<A,R>; Comp<T>; Enum<E> with E : Enum<E> : Comp<E>; Day : Enum<Day>;"
            + " Box<T> with T : Num & Comp<T>; Two<F,S> with F : Coll<S>, S : Coll<?:F>;";

    public static void main(String[] args) {
        atOnce();
        classes();
        wilds();
        parameters();
        newVariables();
        floors();
        orders();
        turned();
        ends();
        C.end();
    }

    /** One question about TABLE with its answer and told(0) to told(3). */
    private static void ask(String question, int answer, int asked, int deep, int made, int together) {
        BoundTables x = C.table(TABLE);
        C.due(question, Check.ask(x, question), answer);
        C.due(question + ": fault", x.fault(), 0);
        C.counts(question, x, asked, deep, made, together);
    }

    private static void atOnce() {
        ask("Any<=Any", 1, 1, 1, 0, 0);
        ask("Num<=Any", 1, 1, 1, 0, 0);
        ask("Coll<?><=Coll<?>", 1, 1, 1, 0, 0);
        ask("Coll<?:Num><=Coll<?:Num>", 1, 1, 1, 0, 0);
        ask("Fun<?^Int,Coll<?>><=Fun<?^Int,Coll<?>>", 1, 1, 1, 0, 0);
        ask("in Box:T<=T", 1, 1, 1, 0, 0);
        ask("in Box:T<=Any", 1, 1, 1, 0, 0);
        ask("Any<=Num", 0, 1, 1, 0, 0);
    }

    private static void classes() {
        ask("Nat<=Num", 1, 1, 1, 0, 1);
        ask("Num<=Nat", 0, 1, 1, 0, 0);
        ask("List<Int><=Num", 0, 1, 1, 0, 0);
        ask("Map<Num,Int><=Coll<Int>", 1, 1, 1, 0, 2);
        ask("Map<Num,Int><=Coll<Num>", 0, 1, 1, 0, 2);
        ask("List<List<?>><=Coll<List<?>>", 1, 1, 1, 0, 2);
        ask("List<List<?>><=Coll<List<?:Any>>", 0, 1, 1, 0, 2);
        ask("Day<=Comp<Day>", 1, 1, 1, 0, 2);
        ask("Fun<Num,Int><=Fun<Num,Num>", 0, 1, 1, 0, 0);
    }

    private static void wilds() {
        ask("List<Int><=Coll<?>", 1, 1, 1, 0, 2);
        ask("Coll<Nat><=Coll<?:Num>", 1, 2, 2, 0, 1);
        ask("Coll<Num><=Coll<?:Nat>", 0, 2, 2, 0, 0);
        ask("Coll<Num><=Coll<?^Nat>", 1, 2, 2, 0, 1);
        ask("Coll<Nat><=Coll<?^Num>", 0, 2, 2, 0, 0);
        ask("Fun<Num,Nat><=Fun<?^Int,?:Int>", 1, 3, 2, 0, 2);
        ask("Fun<Nat,Nat><=Fun<?^Int,?:Int>", 0, 2, 2, 0, 0);
        ask("Coll<Coll<Int>><=Coll<?:Coll<?:Num>>", 1, 3, 3, 0, 1);
        ask("Coll<Coll<Int>><=Coll<Coll<?:Num>>", 0, 1, 1, 0, 0);
        ask("Coll<Any><=Coll<?:Any>", 1, 2, 2, 0, 0);
    }

    private static void parameters() {
        ask("in Box:T<=Num", 1, 2, 2, 0, 0);
        ask("in Box:T<=Comp<T>", 1, 3, 2, 0, 0);
        ask("in Box:T<=Comp<?:Num>", 1, 5, 4, 0, 0);
        ask("in Box:T<=Day", 0, 3, 2, 0, 0);
        ask("in Coll:E<=Num", 0, 2, 2, 0, 0);
        ask("in Coll:Num<=E", 0, 1, 1, 0, 0);
        ask("in Two:F<=S", 0, 2, 2, 0, 0);
        ask("in Two:S<=Coll<?:Coll<?>>", 1, 5, 5, 1, 0);
        ask("in Enum:E<=Comp<E>", 1, 2, 2, 0, 2);
        ask("in Enum:Coll<E><=Coll<?:Enum<?>>", 1, 3, 3, 0, 0);
    }

    private static void newVariables() {
        ask("Coll<?><=Coll<?:Any>", 1, 2, 2, 1, 0);
        ask("Coll<?><=Coll<?:Num>", 0, 3, 3, 1, 0);
        ask("Coll<?:Nat><=Coll<Nat>", 0, 1, 1, 1, 0);
        ask("Coll<?><=Num", 0, 1, 1, 1, 0);
        ask("Box<?><=Box<?:Num>", 1, 3, 3, 1, 3);
        ask("Box<?:Day><=Box<?:Num>", 1, 4, 3, 1, 3);
        ask("Box<?:Day><=Box<?:Comp<?>>", 1, 3, 3, 1, 5);
        ask("Two<?,?><=Two<?:Coll<?>,?:Coll<?:Coll<?>>>", 1, 8, 6, 3, 5);
        ask("Fun<?:Int,?^Int><=Fun<?:Num,?^Nat>", 1, 5, 3, 2, 2);
        ask("Fun<?:Int,?^Int><=Fun<?:Num,?^Num>", 0, 5, 3, 2, 1);
    }

    private static void floors() {
        ask("Coll<?^Num><=Coll<?^Int>", 1, 3, 3, 1, 1);
        ask("Coll<?^Int><=Coll<?^Num>", 0, 3, 3, 1, 0);
        ask("Coll<?^Any><=Coll<?^Num>", 1, 3, 3, 1, 0);
        ask("Coll<?:Num><=Coll<?^Num>", 0, 2, 2, 1, 0);
        ask("in Box:Coll<?^Num><=Coll<?^T>", 1, 4, 4, 1, 0);
        ask("in Box:Coll<?^Day><=Coll<?^T>", 0, 9, 4, 1, 0);
    }

    /** A FLOOR that is itself a NEW variable with a FLOOR. */
    private static void orders() {
        BoundTables x = C.table("N; I:N; C<e>; P<a,b> with b:C<?^a>;");
        C.due("a question", Check.ask(x, "P<?^I,?><=P<?,?:C<?^N>>"), 0);
        C.counts("a question", x, 6, 6, 3, 3);
    }

    /** What is above a class with its ARGS in another order. */
    private static void turned() {
        BoundTables x = C.table("W;X;Y;Z;P<a,b,c,d>;S<a,b,c,d>:P<d,b,a,c>;T<a,b,c>:S<c,a,X,b>;");
        C.due("S<W,X,Y,Z><=P<Z,X,W,Y>", Check.ask(x, "S<W,X,Y,Z><=P<Z,X,W,Y>"), 1);
        C.counts("in its order", x, 1, 1, 0, 5);
        C.due("S<W,X,Y,Z><=P<W,X,Y,Z>", Check.ask(x, "S<W,X,Y,Z><=P<W,X,Y,Z>"), 0);
        C.due("S<W,X,Y,Z><=P<?:Z,?^X,W,?:Y>", Check.ask(x, "S<W,X,Y,Z><=P<?:Z,?^X,W,?:Y>"), 1);
        C.counts("in its order", x, 4, 2, 0, 5);
        C.due("S<W,X,Y,Z><=P<?:Z,?^X,?:X,?:Y>", Check.ask(x, "S<W,X,Y,Z><=P<?:Z,?^X,?:X,?:Y>"), 0);
        C.counts("the third is no", x, 4, 2, 0, 5);
        C.due("T<W,Z,Y><=P<Z,W,Y,X>", Check.ask(x, "T<W,Z,Y><=P<Z,W,Y,X>"), 1);
        C.due("S<?,X,?^Y,?:Z><=P<?:Z,X,?,?^Y>", Check.ask(x, "S<?,X,?^Y,?:Z><=P<?:Z,X,?,?^Y>"), 1);
        C.counts("with NEW variables", x, 5, 3, 3, 5);
        C.due("S<?,X,?^Y,?:Z><=P<?:Z,X,?^Y,?>", Check.ask(x, "S<?,X,?^Y,?:Z><=P<?:Z,X,?^Y,?>"), 0);
    }

    private static void ends() {
        BoundTables x = C.table("Z; N<z>; C<x> : N<N<?^C<C<x>>>>;");
        String question = "C<Z><=N<?^C<Z>>";
        int[] fuels = {3000, 41, 40, 39, 1, 0};
        int[] answers = {BoundTables.DEEP, BoundTables.DEEP, BoundTables.FUEL, BoundTables.FUEL, BoundTables.FUEL, BoundTables.FUEL};
        int[] asked = {40, 40, 40, 39, 1, 0};
        for (int i = 0; i < fuels.length; i++) {
            C.due(question + " with fuel " + fuels[i], Check.fed(x, question).ask(fuels[i]), answers[i]);
            C.due("fault", x.fault(), 0);
            C.counts(question + " with fuel " + fuels[i], x, asked[i], asked[i], 0, 6 * asked[i]);
        }
        C.due("fuel 0 for what is the same", Check.fed(x, "Z<=Z").ask(0), BoundTables.FUEL);
        C.counts("fuel 0", x, 0, 0, 0, 0);
        C.due("fuel 1 for it", Check.fed(x, "Z<=Z").ask(1), 1);
    }
}
