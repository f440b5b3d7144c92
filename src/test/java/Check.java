/** What the tests by hand share: texts onto the tape, answers compared, pages read. */
final class Check {
    interface Call {
        long answer();
    }

    private final String name;
    private int wrong;
    private int count;

    Check(String name) {
        this.name = name;
    }

    static BoundTables fed(BoundTables x, String text) {
        for (int i = 0; i < text.length(); i += 8) {
            int n = Math.min(8, text.length() - i);
            long bytes = 0;
            for (int j = i; j < i + n; j++) {
                bytes = bytes << 8 | text.charAt(j);
            }
            x.feed(bytes, n);
        }
        return x;
    }

    /** A new object with a table, which must be right. */
    BoundTables table(String text) {
        BoundTables x = new BoundTables();
        if (fed(x, text).read() < 0) {
            due("read of " + text + " has fault " + x.fault(), -1, 0);
        }
        return x;
    }

    static int ask(BoundTables x, String question) {
        return fed(x, question).ask(3000);
    }

    static long packed(String text) {
        long sum = 0;
        for (char c : text.toCharArray()) {
            sum = sum << 8 | c;
        }
        return sum;
    }

    /** What is written, at most n bytes of it: an object is used for 512 calls alone. */
    static String page(BoundTables x, int n) {
        int length = Math.min(n, x.told(8));
        StringBuilder sb = new StringBuilder();
        for (int i = 0; i < length; i++) {
            sb.append((char) x.written(i));
        }
        return sb.toString();
    }

    static String page(BoundTables x) {
        return page(x, 100);
    }

    /** Compares a long page: its ends, and some bytes between them. */
    void longPage(String what, BoundTables x, String page) {
        int length = x.told(8);
        due(what + ": told(8)", length, page.length());
        int end = Math.min(length, page.length());
        for (int i = 0; i < end; i += i < 20 || i >= end - 20 ? 1 : Math.min(end - 20 - i, 1 + end / 40)) {
            due(what + ": written(" + i + ")", x.written(i), page.charAt(i));
        }
    }

    /** A TYPE of classes Z, L with one PARAMETER and P with four, with so many NODES. */
    static String typeOf(int nodes) {
        int left = nodes - 1;
        if (nodes < 5) {
            return nodes == 1 ? "Z" : "L<" + argOf(left) + ">";
        }
        StringBuilder sb = new StringBuilder();
        for (int i = 0; i < 4; i++) {
            sb.append(i == 0 ? "P<" : ",").append(argOf(left / 4 + (i < left % 4 ? 1 : 0)));
        }
        return sb.append('>').toString();
    }

    static String argOf(int nodes) {
        return nodes == 1 ? "?" : "?:" + typeOf(nodes - 1);
    }

    void due(String call, long got, long want) {
        count++;
        if (got != want) {
            wrong++;
            System.out.println(name + ": " + call + " answered " + got + ", due is " + want);
        }
    }

    void due(String call, String got, String want) {
        count++;
        if (!got.equals(want)) {
            wrong++;
            System.out.println(name + ": " + call + " answered " + got + ", due is " + want);
        }
    }

    void throwsIndex(String call, Call c) {
        due(call, thrown(c), "IndexOutOfBoundsException");
    }

    void throwsArgument(String call, Call c) {
        due(call, thrown(c), "IllegalArgumentException");
    }

    static String thrown(Call c) {
        try {
            return "no exception but " + c.answer();
        } catch (RuntimeException e) {
            return e.getClass().getSimpleName();
        }
    }

    void throwsFull(String call, Call c) {
        due(call, thrown(c), "UnsupportedOperationException");
    }

    void reads(String text, int classes) {
        BoundTables x = new BoundTables();
        due("read of " + text, fed(x, text).read(), classes);
        due("fault of " + text, x.fault(), 0);
    }

    /** In a marked text a ! stands at the place of the FAULT that is due. */
    static String unmarked(String marked) {
        return marked.replace("!", "");
    }

    void readFault(String marked, int fault) {
        BoundTables x = table("Old;");
        due("read of " + marked, fed(x, unmarked(marked)).read(), -10 - marked.indexOf('!'));
        due("fault of " + marked, x.fault(), fault);
        due("the table behind " + marked, x.cls(1, 3), packed("Old"));
        due("the tape behind " + marked, x.told(7), 0);
    }

    void askFault(BoundTables x, String marked, int fault) {
        due("ask of " + marked, ask(x, unmarked(marked)), -10 - marked.indexOf('!'));
        due("fault of " + marked, x.fault(), fault);
        due("the tape behind " + marked, x.told(7), 0);
    }

    void aboveFault(BoundTables x, String marked, int fault) {
        due("above of " + marked, fed(x, unmarked(marked)).above(), -10 - marked.indexOf('!'));
        due("fault of " + marked, x.fault(), fault);
        due("the tape behind " + marked, x.told(7), 0);
    }

    /** told(0) to told(3). */
    void counts(String what, BoundTables x, int asked, int deep, int made, int together) {
        due(what + ": told(0)", x.told(0), asked);
        due(what + ": told(1)", x.told(1), deep);
        due(what + ": told(2)", x.told(2), made);
        due(what + ": told(3)", x.told(3), together);
    }

    void end() {
        System.out.println(wrong == 0 ? "all " + count + " answers are as due" : wrong + " answers are not as due");
        if (wrong != 0) {
            System.exit(1);
        }
    }
}
