import java.util.Map;
import java.util.Random;
import java.util.TreeMap;

/** Runs of calls by chance, each answer compared with that of the plain model. */
public final class ModelTest {
    private interface Call {
        long answer();
    }

    private static int wrong = 0;
    private static final Map<String, Integer> SEEN = new TreeMap<>();

    private final Random random;
    private final Texts texts;
    private final BoundTables real = new BoundTables();
    private final Model model = new Model();
    private final StringBuilder story = new StringBuilder();
    private int calls;

    private ModelTest(long seed) {
        random = new Random(seed);
        texts = new Texts(random);
    }

    private static String outcome(Call call) {
        try {
            return String.valueOf(call.answer());
        } catch (RuntimeException e) {
            return e.getClass().getSimpleName();
        }
    }

    /** An object is used for 512 calls alone: none is made behind them. */
    private String same(String name, Call got, Call due) {
        if (calls >= 512) {
            return "";
        }
        calls++;
        String g = outcome(got);
        String d = outcome(due);
        if (!g.equals(d) && wrong < 20) {
            wrong++;
            System.out.println(story + "\n  " + name + " answered " + g + ", due is " + d);
        } else if (!g.equals(d)) {
            wrong++;
        }
        return g;
    }

    private void feed(String text) {
        story.append("\n  feed ").append(text);
        for (int i = 0; i < text.length(); i += 8) {
            int n = Math.min(8, text.length() - i);
            long bytes = 0;
            for (int j = i; j < i + n; j++) {
                bytes = bytes << 8 | text.charAt(j);
            }
            long number = n < 8 && random.nextBoolean() ? bytes | random.nextLong() << 8 * n : bytes;
            same("feed", () -> real.feed(number, n), () -> model.feed(number, n));
        }
    }

    private void see(String what) {
        SEEN.merge(what, 1, Integer::sum);
    }

    private void told() {
        for (int w = 0; w <= 9; w++) {
            int what = w;
            same("told(" + w + ")", () -> real.told(what), () -> model.told(what));
        }
        same("fault()", real::fault, model::fault);
    }

    private void page() {
        String page = model.page();
        int step = 1 + page.length() / 20;
        for (int i = 0; i <= page.length(); i += step) {
            int at = i;
            same("written(" + i + ")", () -> real.written(at), () -> model.written(at));
        }
    }

    private void oneTable() {
        feed(texts.table());
        String got = same("read()", real::read, model::read);
        see(model.fault() == 0 ? "read" : "read fault " + model.fault());
        story.append(" -> read ").append(got);
        told();
        for (int i = 0; i < 12; i++) {
            int k = random.nextInt(model.told(4) + 1);
            int l = random.nextInt(model.told(4) + 1);
            int what = random.nextInt(6);
            same("cls(" + k + ", " + what + ")", () -> real.cls(k, what), () -> model.cls(k, what));
            same("isAbove(" + k + ", " + l + ")", () -> real.isAbove(k, l), () -> model.isAbove(k, l));
            int p = random.nextInt(model.told(5) + 1);
            int q = random.nextInt(model.told(5) + 1);
            same("parameter(" + p + ", " + what + ")", () -> real.parameter(p, what), () -> model.parameter(p, what));
            same("way(" + p + ", " + q + ")", () -> real.way(p, q), () -> model.way(p, q));
        }
        if (model.told(9) == 1) {
            see("expansive");
        }
    }

    private void question() {
        feed(texts.question());
        int fuel = random.nextInt(5) == 0 ? random.nextInt(6) - 1 : random.nextInt(20) == 0 ? random.nextInt(3002) : 3000;
        String got = same("ask(" + fuel + ")", () -> real.ask(fuel), () -> model.ask(fuel));
        see(model.fault() == 0 ? "ask " + got : "ask fault " + model.fault());
        story.append(" -> ask(").append(fuel).append(") ").append(got);
        told();
        variables();
    }

    private void variables() {
        int count = model.told(2);
        for (int i = 0; i < 6; i++) {
            int v = i < 2 ? count - i : random.nextInt(count + 1);
            int what = random.nextInt(6) - 2;
            String got = same("variable(" + v + ", " + what + ")", () -> real.variable(v, what), () -> model.variable(v, what));
            see("variable " + (got.length() > 4 ? got : got.equals("0") ? "0" : got.equals("1000") ? "1000" : "some"));
        }
        page();
    }

    private void place() {
        feed(texts.place());
        String got = same("above()", real::above, model::above);
        see(model.fault() == 0 ? "above " + (got.equals("0") ? got : "some") : "above fault " + model.fault());
        story.append(" -> above ").append(got);
        told();
        page();
        variables();
    }

    /** Until one is right, so that there is something to ask about. */
    private void table() {
        do {
            oneTable();
        } while (model.fault() != 0 && calls < 512);
    }

    private static long cleared(Runnable clear) {
        clear.run();
        return 0;
    }

    private void run() {
        table();
        while (calls < 512) {
            switch (random.nextInt(12)) {
                case 0 -> table();
                case 1, 2, 3 -> place();
                default -> question();
            }
            if (random.nextInt(60) == 0) {
                story.append(" -> clear");
                same("clear()", () -> cleared(real::clear), () -> cleared(model::clear));
                told();
            }
        }
    }

    public static void main(String[] args) {
        int runs = args.length > 0 ? Integer.parseInt(args[0]) : 3000;
        long first = args.length > 1 ? Long.parseLong(args[1]) : 1;
        for (long seed = first; seed < first + runs && wrong == 0; seed++) {
            new ModelTest(seed).run();
        }
        System.out.println(SEEN);
        System.out.println(wrong == 0 ? "all answers are as due" : wrong + " answers are not as due");
        if (wrong != 0) {
            System.exit(1);
        }
    }
}
