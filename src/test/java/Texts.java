import java.util.ArrayList;
import java.util.HashSet;
import java.util.List;
import java.util.Random;
import java.util.Set;

/** Makes texts by chance, from a seed: most of them right, some of them spoilt. */
final class Texts {
    private final Random random;
    private final List<String> names = new ArrayList<>();
    private final List<List<String>> parameters = new ArrayList<>();
    private final List<List<Integer>> below = new ArrayList<>();
    private final List<Set<Integer>> over = new ArrayList<>();
    private String hardQuestion;
    private int wildness;
    private int depth;

    Texts(Random random) {
        this.random = random;
        forget();
    }

    private void forget() {
        names.clear();
        parameters.clear();
        below.clear();
        over.clear();
        hardQuestion = null;
        known("Any", List.of(), List.of());
    }

    private void known(String name, List<String> own, List<Integer> up) {
        names.add(name);
        parameters.add(own);
        below.add(up);
        Set<Integer> all = new HashSet<>(up);
        for (int u : up) {
            all.addAll(over.get(u));
        }
        over.add(all);
    }

    private boolean chance(int percent) {
        return random.nextInt(100) < percent;
    }

    private String blank() {
        return chance(90) ? "" : chance(50) ? " " : "\n ";
    }

    /** A table; what questions() makes later is about it. */
    String table() {
        forget();
        if (chance(25)) {
            return hardTable();
        }
        wildness = random.nextInt(40);
        depth = 1 + random.nextInt(3);
        StringBuilder sb = new StringBuilder();
        int count = chance(10) ? 17 + random.nextInt(5) : 1 + random.nextInt(9);
        for (int k = 1; k <= count; k++) {
            int room = 800 - sb.length();
            String decl = declaration(k);
            if (decl.length() > room && !chance(5)) {
                break;
            }
            sb.append(decl);
        }
        String text = sb.toString();
        return cut(chance(25) ? spoil(text) : text);
    }

    /** Tables with questions that grow, so that they come to DEEP, FUEL, FULL or a full page. */
    private String hardTable() {
        String z = chance(50) ? "Z" : "P<Z,?:Z>";
        known("Z", List.of(), List.of());
        known("P", List.of("x", "y"), List.of());
        known("N", List.of("z"), List.of());
        String start = "Z; P<x,y>; N<z>; ";
        switch (random.nextInt(4)) {
            case 0 -> {
                known("C", List.of("x"), List.of(3));
                hardQuestion = "C<" + z + "><=N<?^C<" + z + ">>";
                return start + "C<x> : N<N<?^C<C<x>>>>;";
            }
            case 1 -> {
                known("D", List.of("x", "w"), List.of(3));
                hardQuestion = "D<" + z + ",?><=N<?^D<" + z + ",?>>";
                return start + "D<x,w> with w : P<x,w> " + (chance(50) ? "& P<w,x>" : "")
                        + " : N<N<?^D<P<x,x>,?" + (chance(50) ? ":P<x,x>" : "^N<x>") + ">>>;";
            }
            case 2 -> {
                String arg = chance(50) ? "?" : "?^Z";
                known("A", List.of("x", "y"), List.of());
                String nest = "Z";
                for (int i = 0; i < 4 + random.nextInt(4); i++) {
                    nest = "A<?:" + nest + (chance(20) ? ",?:N<Z>>" : ",?>");
                }
                hardQuestion = "A<?," + arg + "><=" + nest;
                return start + "A<x,y> with x : A<?," + arg + "> & A<" + arg + ",?>, y : A<?,x>;";
            }
            default -> {
                known("A", List.of("x"), List.of());
                StringBuilder big = new StringBuilder("x");
                for (int i = 0; i < 1 + random.nextInt(30); i++) {
                    big.append(",").append(chance(50) ? "N<x>" : "P<Z,x>");
                }
                String bound = "A<?>";
                String first = chance(50) ? bound : bound + " & A<?:P<" + String.join(",", spread(big.toString())) + ">>";
                String nest = "Z";
                for (int i = 0; i < 7; i++) {
                    nest = "A<?:" + nest + ">";
                }
                hardQuestion = "A<?:" + (chance(50) ? "A<?>" : "Z") + "><=" + nest;
                return start + "A<x> with x : " + first + ";";
            }
        }
    }

    /** Two ARGS that hold all those of a row, paired by P. */
    private List<String> spread(String row) {
        List<String> parts = new ArrayList<>();
        for (String part : row.split(",(?![^<]*>)")) {
            parts.add(part);
        }
        while (parts.size() > 2) {
            List<String> next = new ArrayList<>();
            for (int i = 0; i + 1 < parts.size(); i += 2) {
                next.add("P<" + parts.get(i) + "," + parts.get(i + 1) + ">");
            }
            if (parts.size() % 2 == 1) {
                next.add(parts.get(parts.size() - 1));
            }
            parts = next;
        }
        return parts.size() == 2 ? parts : List.of("x", "x");
    }

    private static String cut(String text) {
        return text.length() > 800 ? text.substring(0, 800) : text;
    }

    private String declaration(int k) {
        StringBuilder sb = new StringBuilder();
        String name = chance(85) ? String.valueOf((char) ('A' + k - 1)) : "Class" + k;
        List<String> own = new ArrayList<>();
        int count = chance(20) ? 0 : chance(60) ? 1 : 1 + random.nextInt(4);
        for (int i = 0; i < count; i++) {
            own.add(chance(1) ? names.get(random.nextInt(names.size())) : String.valueOf((char) ('t' + i)));
        }
        known(name, own, List.of());
        sb.append(blank()).append(name).append(blank());
        if (count > 0) {
            sb.append('<').append(String.join(blank() + ",", own)).append(blank()).append('>');
        }
        String sign = " with ";
        for (int i = 0; i < count; i++) {
            if (chance(35)) {
                sb.append(sign).append(own.get(i)).append(blank()).append(':').append(type(k, depth, false));
                if (chance(20)) {
                    sb.append(blank()).append('&').append(type(k, depth, false));
                }
                sign = ",";
            }
        }
        sign = ":";
        List<Integer> up = new ArrayList<>();
        int supers = chance(30) ? 0 : chance(70) ? 1 : 2 + random.nextInt(3);
        for (int i = 0; i < supers && k > 1; i++) {
            int s = chance(1) ? random.nextInt(k + 1) : 1 + random.nextInt(k - 1);
            boolean meet = false;
            for (int u : up) {
                meet |= u == s || over.get(u).contains(s) || over.get(s).contains(u);
                meet |= over.get(u).stream().anyMatch(over.get(s)::contains);
            }
            if (meet && !chance(5)) {
                continue;
            }
            sb.append(sign).append(of(s, k, depth, true));
            if (s != k) {
                up.add(s);
            }
            sign = ",";
        }
        names.remove(k);
        parameters.remove(k);
        below.remove(k);
        over.remove(k);
        known(name, own, up);
        return sb.append(blank()).append(';').toString();
    }

    /** A TYPE with class k's PARAMETERS, if k is one. */
    private String type(int k, int deep, boolean parametersToo) {
        List<String> own = k < 0 ? List.of() : parameters.get(k);
        if (!own.isEmpty() && (parametersToo ? chance(45) : random.nextInt(300) == 0)) {
            return own.get(random.nextInt(own.size()));
        }
        int most = k < 0 || chance(2) ? names.size() : k + 1;
        int pick = random.nextInt(most);
        for (int i = 0; i < 4 && deep <= 0 && !parameters.get(pick).isEmpty(); i++) {
            pick = random.nextInt(most);
        }
        return of(pick, k, deep, false);
    }

    private String of(int pick, int k, int deep, boolean asSuper) {
        StringBuilder sb = new StringBuilder(blank()).append(names.get(pick));
        int count = parameters.get(pick).size();
        if (random.nextInt(400) == 0) {
            count = random.nextInt(6);
        }
        for (int i = 0; i < count; i++) {
            sb.append(i == 0 ? '<' : ',');
            int wild = asSuper ? (random.nextInt(300) == 0 ? 50 : 0) : wildness;
            if (chance(wild) || deep < -3) {
                sb.append(blank()).append('?').append(blank());
                int sort = deep < -3 ? 0 : random.nextInt(3);
                if (sort > 0) {
                    sb.append(sort == 1 ? ':' : '^').append(type(k, deep - 1, true));
                }
            } else {
                sb.append(type(k, deep - 1, true));
            }
        }
        return sb.append(count > 0 ? ">" : "").append(blank()).toString();
    }

    private String scope(int k) {
        return k < 0 ? blank() : blank() + "in " + names.get(k) + blank() + ":";
    }

    private int someScope() {
        return chance(60) ? -1 : random.nextInt(names.size());
    }

    /** A class that is the one given or above it, by what was told. */
    private int climb(int k) {
        int at = k;
        for (int i = 0; i < 4 && !below.get(at).isEmpty() && chance(70); i++) {
            at = below.get(at).get(random.nextInt(below.get(at).size()));
        }
        return at;
    }

    String question() {
        if (hardQuestion != null && chance(40)) {
            return hardQuestion;
        }
        int k = someScope();
        wildness = random.nextInt(101);
        int s = random.nextInt(names.size());
        int t = chance(85) ? climb(s) : random.nextInt(names.size());
        int deep = random.nextInt(4);
        String left = chance(85) ? of(s, k, deep, false) : type(k, deep, true);
        String right = chance(85) ? of(t, k, deep, false) : type(k, deep, true);
        if (chance(10)) {
            right = left;
        }
        String text = scope(k) + left + "<" + blank() + "=" + right;
        return cut(chance(10) ? spoil(text) : text);
    }

    String place() {
        int k = someScope();
        wildness = random.nextInt(101);
        int s = random.nextInt(names.size());
        int t = chance(85) ? climb(s) : random.nextInt(names.size());
        String text = scope(k) + (chance(90) ? of(s, k, 2, false) : type(k, 2, true)) + " above " + names.get(t);
        return cut(chance(10) ? spoil(text) : text);
    }

    private String spoil(String text) {
        StringBuilder sb = new StringBuilder(text);
        for (int i = 0; i < 1 + random.nextInt(2) && sb.length() > 0; i++) {
            int at = random.nextInt(sb.length());
            String bytes = "<>,:&?^;=<>,:&?^;=ABtu1 \u0001#\u00e9";
            char c = bytes.charAt(random.nextInt(bytes.length()));
            switch (random.nextInt(5)) {
                case 0 -> sb.deleteCharAt(at);
                case 1 -> sb.insert(at, c);
                case 2 -> sb.setCharAt(at, c);
                case 3 -> sb.insert(at, List.of(" in ", " with ", " above ", "<?", "longnames", "Any").get(random.nextInt(6)));
                default -> sb.setLength(at);
            }
        }
        return sb.toString();
    }
}
