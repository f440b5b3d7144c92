import java.util.ArrayList;
import java.util.HashMap;
import java.util.HashSet;
import java.util.LinkedHashMap;
import java.util.List;
import java.util.Map;
import java.util.Set;

/**
 * The document once more, written for plainness and with all of the Java library, to be compared
 * with BoundTables call by call. It shares no code and no form of TYPES with it.
 */
final class Model {

    /** A FAULT of a text. */
    static final class Fault extends RuntimeException {
        final int code;
        final int place;

        Fault(int code, int place) {
            super(null, null, false, false);
            this.code = code;
            this.place = place;
        }
    }

    /** FUEL, DEEP or FULL. */
    static final class End extends RuntimeException {
        final int which;

        End(int which) {
            super(null, null, false, false);
            this.which = which;
        }
    }

    /** A TYPE or an ARG: a class (C), PARAMETER (P), NEW variable (N), or one of ? : ^ . */
    record Node(int id, char kind, int number, List<Node> args) {
        boolean isVariable() {
            return kind == 'P' || kind == 'N';
        }

        boolean isWild() {
            return kind == '?' || kind == ':' || kind == '^';
        }
    }

    static final class Cls {
        String name;
        int number;
        List<Integer> parameters = new ArrayList<>();
        List<Node> supers = new ArrayList<>();
        Map<Integer, Node> above = new LinkedHashMap<>();
    }

    static final class Par {
        String name;
        int cls;
        int place;
        List<Node> bounds = new ArrayList<>();
    }

    static final class Tab {
        List<Cls> classes = new ArrayList<>();
        List<Par> parameters = new ArrayList<>();
        int nodes;

        Tab() {
            Cls any = new Cls();
            any.name = "Any";
            classes.add(any);
        }

        Cls named(String name) {
            for (Cls c : classes) {
                if (c.name.equals(name)) {
                    return c;
                }
            }
            return null;
        }
    }

    static final class NewVariable {
        List<Node> bounds = new ArrayList<>();
        Node floor;
    }

    record Token(String text, int place, int behind, boolean name) {
    }

    private final Map<String, Node> interned = new HashMap<>();
    private StringBuilder tape = new StringBuilder();
    private Tab tab = new Tab();
    private int fault;
    private byte[] written = new byte[0];
    private int fuel;
    private int asked;
    private int deepest;
    private int together;
    private List<NewVariable> variables = new ArrayList<>();

    Model() {
        tab.classes.get(0).above.put(0, any());
    }

    // ---- TYPES

    private Node node(char kind, int number, List<Node> args) {
        StringBuilder key = new StringBuilder();
        key.append(kind).append(number);
        for (Node a : args) {
            key.append(' ').append(a.id());
        }
        Node known = interned.get(key.toString());
        if (known == null) {
            known = new Node(interned.size(), kind, number, List.copyOf(args));
            interned.put(key.toString(), known);
        }
        return known;
    }

    private Node any() {
        return node('C', 0, List.of());
    }

    private Node substitute(Node in, Map<Integer, Node> with) {
        if (in.kind() == 'P') {
            return with.getOrDefault(in.number(), in);
        }
        List<Node> args = new ArrayList<>();
        for (Node a : in.args()) {
            args.add(substitute(a, with));
        }
        return node(in.kind(), in.number(), args);
    }

    private static long size(Node n, long limit) {
        long sum = 1;
        for (Node a : n.args()) {
            if (sum > limit) {
                break;
            }
            sum += size(a, limit);
        }
        return sum;
    }

    // ---- texts

    /** Reads one text; a token is cut only when it is looked at. */
    private final class Text {
        final String text;
        final Tab of;
        Cls scope;
        int position;
        int nodes;

        Text(String text, Tab of) {
            this.text = text;
            this.of = of;
        }

        private boolean letter(char c) {
            return "ABCDEFGHIJKLMNOPQRSTUVWXYZabcdefghijklmnopqrstuvwxyz".indexOf(c) >= 0;
        }

        Token look(int from) {
            int i = from;
            while (i < text.length() && (text.charAt(i) == 32 || text.charAt(i) == 10)) {
                i++;
            }
            if (i == text.length()) {
                return new Token("", i, i, false);
            }
            char c = text.charAt(i);
            if (letter(c)) {
                int j = i;
                while (j < text.length() && (letter(text.charAt(j)) || "0123456789".indexOf(text.charAt(j)) >= 0)) {
                    j++;
                }
                if (j - i > 8) {
                    throw new Fault(1, i);
                }
                String word = text.substring(i, j);
                return new Token(word, i, j, !Set.of("in", "with", "above").contains(word));
            }
            if ("<>,:&?^;=".indexOf(c) < 0) {
                throw new Fault(1, i);
            }
            return new Token(String.valueOf(c), i, i + 1, false);
        }

        Token now() {
            return look(position);
        }

        boolean at(String sign) {
            return now().text().equals(sign);
        }

        Token name() {
            Token t = now();
            if (!t.name()) {
                throw new Fault(2, t.place());
            }
            return t;
        }

        void take(String sign) {
            if (!at(sign)) {
                throw new Fault(2, now().place());
            }
            position = now().behind();
        }

        void pass() {
            position = now().behind();
        }

        boolean opens() {
            if (!at("<")) {
                return false;
            }
            try {
                return !look(now().behind()).text().equals("=");
            } catch (Fault f) {
                return true;
            }
        }

        /** place: 0 in an ARG or question, 1 behind the : of a DECL, 2 of a PARAMETER. */
        Node type(int around, int place, boolean tooMany, Set<String> follow) {
            Token t = name();
            Par p = null;
            if (scope != null) {
                for (int q : scope.parameters) {
                    if (of.parameters.get(q).name.equals(t.text())) {
                        p = of.parameters.get(q);
                    }
                }
            }
            Cls c = p == null ? of.named(t.text()) : null;
            if (p == null && c == null) {
                throw new Fault(4, t.place());
            }
            nodes++;
            if (tooMany || around >= 8 || nodes > 300) {
                throw new Fault(6, t.place());
            }
            if (place == 1 && (p != null || c == scope) || place == 2 && p != null) {
                throw new Fault(7, t.place());
            }
            pass();
            List<Node> args = new ArrayList<>();
            if (opens()) {
                if (p != null) {
                    throw new Fault(5, now().place());
                }
                do {
                    pass();
                    args.add(at("?") ? wild(around + 1, place == 1) : type(around + 1, 0, false, Set.of(",", ">")));
                } while (at(","));
                take(">");
            }
            Token behind = now();
            if (!follow.contains(behind.text())) {
                throw new Fault(2, behind.place());
            }
            if (c != null && args.size() != c.parameters.size()) {
                throw new Fault(5, behind.place());
            }
            return p != null ? node('P', of.parameters.indexOf(p), List.of()) : node('C', c.number, args);
        }

        Node wild(int around, boolean forbidden) {
            nodes++;
            if (nodes > 300) {
                throw new Fault(6, now().place());
            }
            if (forbidden) {
                throw new Fault(7, now().place());
            }
            pass();
            for (String sort : List.of(":", "^")) {
                if (at(sort)) {
                    pass();
                    return node(sort.charAt(0), 0, List.of(type(around, 0, false, Set.of(",", ">"))));
                }
            }
            if (!at(",") && !at(">")) {
                throw new Fault(2, now().place());
            }
            return node('?', 0, List.of());
        }

        void opening() {
            if (at("in")) {
                pass();
                Token t = name();
                scope = of.named(t.text());
                if (scope == null) {
                    throw new Fault(4, t.place());
                }
                pass();
                take(":");
            }
        }

        void declaration() {
            Token t = name();
            if (of.named(t.text()) != null) {
                throw new Fault(3, t.place());
            }
            if (of.classes.size() == 21) {
                throw new Fault(6, t.place());
            }
            pass();
            scope = new Cls();
            scope.name = t.text();
            scope.number = of.classes.size();
            of.classes.add(scope);
            if (at("<")) {
                do {
                    pass();
                    parameter(name());
                } while (at(","));
                take(">");
            }
            if (at("with")) {
                do {
                    pass();
                    boundsOf(name());
                } while (at(","));
            }
            if (at(":")) {
                do {
                    pass();
                    scope.supers.add(type(0, 1, scope.supers.size() == 4, Set.of(",", ";")));
                } while (at(","));
            }
            int semicolon = now().place();
            if (!at(";")) {
                throw new Fault(2, semicolon);
            }
            findAbove(scope, semicolon);
            take(";");
        }

        void parameter(Token t) {
            for (int q : scope.parameters) {
                if (of.parameters.get(q).name.equals(t.text())) {
                    throw new Fault(3, t.place());
                }
            }
            if (scope.parameters.size() == 4) {
                throw new Fault(6, t.place());
            }
            Par p = new Par();
            p.name = t.text();
            p.cls = scope.number;
            p.place = scope.parameters.size();
            scope.parameters.add(of.parameters.size());
            of.parameters.add(p);
            pass();
        }

        void boundsOf(Token t) {
            Par p = null;
            for (int q : scope.parameters) {
                if (of.parameters.get(q).name.equals(t.text())) {
                    p = of.parameters.get(q);
                }
            }
            if (p == null) {
                throw new Fault(4, t.place());
            }
            if (!p.bounds.isEmpty()) {
                throw new Fault(3, t.place());
            }
            pass();
            if (!at(":")) {
                throw new Fault(2, now().place());
            }
            do {
                pass();
                p.bounds.add(type(0, 2, p.bounds.size() == 2, Set.of("&", ",", ":", ";")));
            } while (at("&"));
        }

        void findAbove(Cls c, int place) {
            List<Node> own = new ArrayList<>();
            for (int q : c.parameters) {
                own.add(node('P', q, List.of()));
            }
            c.above.put(c.number, node('C', c.number, own));
            for (Node s : c.supers) {
                Map<Integer, Node> with = argsOf(of, s.number(), s.args());
                for (Map.Entry<Integer, Node> e : of.classes.get(s.number()).above.entrySet()) {
                    Node up = substitute(e.getValue(), with);
                    Node known = c.above.putIfAbsent(e.getKey(), up);
                    if (known != null && known != up || size(up, 200) > 200) {
                        throw new Fault(8, place);
                    }
                }
            }
            c.above.putIfAbsent(0, any());
        }
    }

    private static Map<Integer, Node> argsOf(Tab of, int cls, List<Node> args) {
        Map<Integer, Node> with = new HashMap<>();
        List<Integer> parameters = of.classes.get(cls).parameters;
        for (int i = 0; i < parameters.size(); i++) {
            with.put(parameters.get(i), args.get(i));
        }
        return with;
    }

    // ---- calls

    int feed(long bytes, int n) {
        if (n < 1 || n > 8) {
            throw new IllegalArgumentException();
        }
        if (tape.length() + n > 800) {
            throw new UnsupportedOperationException();
        }
        for (int i = 8 - n; i < 8; i++) {
            tape.append((char) (bytes << 8 * i >>> 56));
        }
        return tape.length();
    }

    private Text text(Tab of) {
        Text text = new Text(tape.toString(), of);
        tape = new StringBuilder();
        return text;
    }

    int read() {
        Tab fresh = new Tab();
        fresh.classes.get(0).above.put(0, any());
        try {
            Text text = text(fresh);
            do {
                text.declaration();
            } while (!text.at(""));
            fresh.nodes = text.nodes;
        } catch (Fault f) {
            fault = f.code;
            return -10 - f.place;
        }
        fault = 0;
        tab = fresh;
        forget();
        return tab.classes.size();
    }

    private void forget() {
        asked = 0;
        deepest = 0;
        together = 0;
        variables = new ArrayList<>();
    }

    int fault() {
        return fault;
    }

    private static long packed(String name) {
        long sum = 0;
        for (char c : name.toCharArray()) {
            sum = sum * 256 + c;
        }
        return sum;
    }

    private Cls classAt(int k) {
        if (k < 0 || k >= tab.classes.size()) {
            throw new IndexOutOfBoundsException();
        }
        return tab.classes.get(k);
    }

    private Par parameterAt(int p) {
        if (p < 0 || p >= tab.parameters.size()) {
            throw new IndexOutOfBoundsException();
        }
        return tab.parameters.get(p);
    }

    long cls(int k, int what) {
        Cls c = classAt(k);
        return switch (what) {
            case 0 -> c.parameters.size();
            case 1 -> c.supers.size();
            case 2 -> c.above.size();
            case 3 -> packed(c.name);
            case 4 -> c.parameters.isEmpty() ? -1 : c.parameters.get(0);
            default -> throw new IllegalArgumentException();
        };
    }

    int isAbove(int k, int above) {
        classAt(above);
        return classAt(k).above.containsKey(above) ? 1 : 0;
    }

    private void collect(Node in, Set<Integer> into) {
        if (in.kind() == 'P') {
            into.add(in.number());
        }
        for (Node a : in.args()) {
            collect(a, into);
        }
    }

    private void waysOf(Node n, Map<List<Integer>, Integer> ways) {
        for (int i = 0; i < n.args().size(); i++) {
            Node arg = n.args().get(i);
            if (n.kind() == 'C') {
                Set<Integer> within = new HashSet<>();
                collect(arg, within);
                int to = tab.classes.get(n.number()).parameters.get(i);
                for (int p : within) {
                    ways.merge(List.of(p, to), arg.kind() == 'P' ? 1 : 2, Math::max);
                }
            }
            waysOf(arg, ways);
        }
    }

    private Map<List<Integer>, Integer> ways() {
        Map<List<Integer>, Integer> ways = new HashMap<>();
        for (Cls c : tab.classes) {
            c.supers.forEach(s -> waysOf(s, ways));
        }
        for (Par p : tab.parameters) {
            p.bounds.forEach(b -> waysOf(b, ways));
        }
        return ways;
    }

    /** Walks from p with whether a way has grown so far, and looks whether it comes back so. */
    private boolean onRound(int p) {
        Map<List<Integer>, Integer> ways = ways();
        Set<List<Integer>> seen = new HashSet<>();
        List<List<Integer>> todo = new ArrayList<>();
        todo.add(List.of(p, 0));
        while (!todo.isEmpty()) {
            List<Integer> at = todo.remove(todo.size() - 1);
            for (Map.Entry<List<Integer>, Integer> e : ways.entrySet()) {
                if (e.getKey().get(0).equals(at.get(0))) {
                    List<Integer> next = List.of(e.getKey().get(1), Math.max(at.get(1), e.getValue() - 1));
                    if (seen.add(next)) {
                        todo.add(next);
                    }
                }
            }
        }
        return seen.contains(List.of(p, 1));
    }

    long parameter(int p, int what) {
        Par par = parameterAt(p);
        return switch (what) {
            case 0 -> par.cls;
            case 1 -> par.bounds.size();
            case 2 -> packed(par.name);
            case 3 -> onRound(p) ? 1 : 0;
            default -> throw new IllegalArgumentException();
        };
    }

    int way(int p, int q) {
        parameterAt(p);
        parameterAt(q);
        return ways().getOrDefault(List.of(p, q), 0);
    }

    int ask(int fuel) {
        if (fuel < 0 || fuel > 3000) {
            throw new IllegalArgumentException();
        }
        Node s;
        Node t;
        try {
            Text text = text(tab);
            text.opening();
            s = text.type(0, 0, false, Set.of("<"));
            text.take("<");
            text.take("=");
            t = text.type(0, 0, false, Set.of(""));
        } catch (Fault f) {
            fault = f.code;
            return -10 - f.place;
        }
        fault = 0;
        forget();
        this.fuel = fuel;
        try {
            return below(s, t, 0) ? 1 : 0;
        } catch (End e) {
            return e.which;
        }
    }

    private boolean below(Node s, Node t, int others) {
        if (asked == fuel) {
            throw new End(-3);
        }
        if (others == 40) {
            throw new End(-2);
        }
        asked++;
        deepest = Math.max(deepest, others + 1);
        if (s == t || t == any()) {
            return true;
        }
        if (t.kind() == 'N' && variables.get(t.number()).floor != null
                && below(s, variables.get(t.number()).floor, others + 1)) {
            return true;
        }
        if (s.isVariable()) {
            List<Node> bounds = s.kind() == 'N' ? variables.get(s.number()).bounds : tab.parameters.get(s.number()).bounds;
            for (Node b : bounds.isEmpty() ? List.of(any()) : bounds) {
                if (below(b, t, others + 1)) {
                    return true;
                }
            }
            return false;
        }
        if (t.isVariable()) {
            return false;
        }
        List<Node> args = captured(s);
        if (!tab.classes.get(s.number()).above.containsKey(t.number())) {
            return false;
        }
        List<Node> up = s.number() == t.number() ? args : raised(s.number(), t.number(), args).args();
        for (int i = 0; i < up.size(); i++) {
            Node q = up.get(i);
            Node b = t.args().get(i);
            boolean right = switch (b.kind()) {
                case '?' -> true;
                case ':' -> below(q, b.args().get(0), others + 1);
                case '^' -> below(b.args().get(0), q, others + 1);
                default -> q == b;
            };
            if (!right) {
                return false;
            }
        }
        return true;
    }

    private Node raised(int low, int high, List<Node> args) {
        return putTogether(tab.classes.get(low).above.get(high), argsOf(tab, low, args));
    }

    private Node putTogether(Node told, Map<Integer, Node> with) {
        int nodes = (int) size(told, 1000);
        if (together + nodes > 6000) {
            throw new End(-4);
        }
        together += nodes;
        return substitute(told, with);
    }

    private List<Node> captured(Node s) {
        List<Node> args = new ArrayList<>();
        for (Node a : s.args()) {
            if (a.isWild()) {
                if (variables.size() == 300) {
                    throw new End(-4);
                }
                NewVariable v = new NewVariable();
                v.floor = a.kind() == '^' ? a.args().get(0) : null;
                args.add(node('N', variables.size(), List.of()));
                variables.add(v);
            } else {
                args.add(a);
            }
        }
        Map<Integer, Node> with = argsOf(tab, s.number(), args);
        for (int i = 0; i < args.size(); i++) {
            Node a = s.args().get(i);
            if (a.isWild()) {
                List<Node> bounds = variables.get(args.get(i).number()).bounds;
                if (a.kind() == ':') {
                    bounds.add(a.args().get(0));
                }
                for (Node b : tab.parameters.get(tab.classes.get(s.number()).parameters.get(i)).bounds) {
                    bounds.add(putTogether(b, with));
                }
                if (bounds.isEmpty()) {
                    bounds.add(any());
                }
            }
        }
        return args;
    }

    int told(int what) {
        return switch (what) {
            case 0 -> asked;
            case 1 -> deepest;
            case 2 -> variables.size();
            case 3 -> together;
            case 4 -> tab.classes.size();
            case 5 -> tab.parameters.size();
            case 6 -> tab.nodes;
            case 7 -> tape.length();
            case 8 -> written.length;
            case 9 -> expansive();
            default -> throw new IllegalArgumentException();
        };
    }

    private int expansive() {
        for (int p = 0; p < tab.parameters.size(); p++) {
            if (onRound(p)) {
                return 1;
            }
        }
        return 0;
    }

    int above() {
        Node s;
        Cls target;
        try {
            Text text = text(tab);
            text.opening();
            s = text.type(0, 0, false, Set.of("above"));
            text.take("above");
            Token t = text.name();
            target = tab.named(t.text());
            if (target == null) {
                throw new Fault(4, t.place());
            }
            text.pass();
            if (!text.at("")) {
                throw new Fault(2, text.now().place());
            }
        } catch (Fault f) {
            fault = f.code;
            return -10 - f.place;
        }
        fault = 0;
        forget();
        if (target.number == 0) {
            return write(any());
        }
        if (s.kind() == 'P') {
            return 0;
        }
        if (s.number() == target.number) {
            return write(s);
        }
        if (!tab.classes.get(s.number()).above.containsKey(target.number)) {
            return 0;
        }
        return write(raised(s.number(), target.number, captured(s)));
    }

    int variable(int v, int what) {
        if (v < 0 || v >= variables.size()) {
            throw new IndexOutOfBoundsException();
        }
        NewVariable var = variables.get(v);
        if (what == -1) {
            return var.floor == null ? 0 : write(var.floor);
        }
        return what < 0 || what >= var.bounds.size() ? 0 : write(var.bounds.get(what));
    }

    private int write(Node n) {
        StringBuilder sb = new StringBuilder();
        write(n, sb);
        String all = sb.substring(0, Math.min(1000, sb.length()));
        written = all.getBytes(java.nio.charset.StandardCharsets.ISO_8859_1);
        return written.length;
    }

    private void write(Node n, StringBuilder sb) {
        if (sb.length() > 1000) {
            return;
        }
        switch (n.kind()) {
            case 'C' -> sb.append(tab.classes.get(n.number()).name);
            case 'P' -> sb.append(tab.parameters.get(n.number()).name);
            case 'N' -> sb.append('#').append(n.number());
            case '?' -> sb.append('?');
            default -> sb.append('?').append(n.kind());
        }
        for (int i = 0; i < n.args().size(); i++) {
            if (n.kind() == 'C') {
                sb.append(i == 0 ? '<' : ',');
            }
            write(n.args().get(i), sb);
        }
        if (n.kind() == 'C' && !n.args().isEmpty()) {
            sb.append('>');
        }
    }

    int written(int i) {
        if (i < 0 || i >= written.length) {
            throw new IndexOutOfBoundsException();
        }
        return written[i];
    }

    String page() {
        return new String(written, java.nio.charset.StandardCharsets.ISO_8859_1);
    }

    void clear() {
        tape = new StringBuilder();
        tab = new Tab();
        tab.classes.get(0).above.put(0, any());
        fault = 0;
        written = new byte[0];
        interned.clear();
        tab.classes.get(0).above.put(0, any());
        forget();
    }
}
