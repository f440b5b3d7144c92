/** What the tests by hand share: texts onto the tape, answers compared, pages read. */
final class Check {
    interface Call {
        long answer();
    }

    private final String name;
    private int wrong;
    private int count;

    Check(String name) {
        this.name = name;
    }

    static BoundTables fed(BoundTables x, String text) {
        for (int i = 0; i < text.length(); i += 8) {
            int n = Math.min(8, text.length() - i);
            long bytes = 0;
            for (int j = i; j < i + n; j++) {
                bytes = bytes << 8 | text.charAt(j);
            }
            x.feed(bytes, n);
        }
        return x;
    }

    /** A new object with a table, which must be right. */
    BoundTables table(String text) {
        BoundTables x = new BoundTables();
        if (fed(x, text).read() < 0) {
            due("read of " + text + " has fault " + x.fault(), -1, 0);
        }
        return x;
    }

    static int ask(BoundTables x, String question) {
        return fed(x, question).ask(3000);
    }

    static long packed(String text) {
        long sum = 0;
        for (char c : text.toCharArray()) {
            sum = sum << 8 | c;
        }
        return sum;
    }

    static String page(BoundTables x) {
        StringBuilder sb = new StringBuilder();
        for (int i = 0; i < x.told(8); i++) {
            sb.append((char) x.written(i));
        }
        return sb.toString();
    }

    void due(String call, long got, long want) {
        count++;
        if (got != want) {
            wrong++;
            System.out.println(name + ": " + call + " answered " + got + ", due is " + want);
        }
    }

    void due(String call, String got, String want) {
        count++;
        if (!got.equals(want)) {
            wrong++;
            System.out.println(name + ": " + call + " answered " + got + ", due is " + want);
        }
    }

    void throwsIndex(String call, Call c) {
        due(call, thrown(c), "IndexOutOfBoundsException");
    }

    void throwsArgument(String call, Call c) {
        due(call, thrown(c), "IllegalArgumentException");
    }

    static String thrown(Call c) {
        try {
            return "no exception but " + c.answer();
        } catch (RuntimeException e) {
            return e.getClass().getSimpleName();
        }
    }

    /** told(0) to told(3). */
    void counts(String what, BoundTables x, int asked, int deep, int made, int together) {
        due(what + ": told(0)", x.told(0), asked);
        due(what + ": told(1)", x.told(1), deep);
        due(what + ": told(2)", x.told(2), made);
        due(what + ": told(3)", x.told(3), together);
    }

    void end() {
        System.out.println(wrong == 0 ? "all " + count + " answers are as due" : wrong + " answers are not as due");
        if (wrong != 0) {
            System.exit(1);
        }
    }
}
