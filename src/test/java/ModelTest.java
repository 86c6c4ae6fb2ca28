import java.util.Random;

/**
 * All promises in long mixed runs of 512 calls, every second one digest: every answer and every exception against
 * those of the model; the arguments are by preference the bounds and what lies next to them.
 */
public final class ModelTest {
    private static final int RUNS = 150;
    private static final int CALLS = 512;

    /** A call of the face: its name, the bounds of each argument, and how often it is made. */
    private record Form(String name, int often, int... bounds) {
    }

    private static final Form[] FORMS = {
        new Form("setRoom", 8, 0, 15, 0, 30),
        new Form("setCode", 4, 1, 7, -1, 15),
        new Form("lantern", 3, 0, 15),
        new Form("setShow", 10, 0, 4, 0, 9, 0, 7),
        new Form("watchman", 2, 0, 15, 0, 15, 0, 3),
        new Form("boat", 3, 0, 15, 1, 20),
        new Form("send", 5, 0, 5, -1, 15),
        new Form("carry", 5, 0, 15, 1, 30),
        new Form("told", 2, 0, 5, 0, 6),
        new Form("about", 2, 0, 3, 0, 4),
        new Form("light", 2, 0, 4, 0, 3),
        new Form("code", 2, 1, 7, 0, 3),
        new Form("place", 2, 0, 15, 0, 4),
        new Form("moon", 1, 0, 999),
        new Form("count", 2, 0, 10),
        new Form("pass", 4, 1, 60),
        new Form("until", 3, 0, 5),
        new Form("foresee", 3, 1, 60, 4, 10),
        new Form("advise", 1, 0, 5),
        new Form("quiet", 3, 0, 15),
        new Form("mean", 2),
    };

    public static void main(String[] args) {
        for (int seed = 0; seed < RUNS; seed++) {
            run(seed);
        }
        Check.end("ModelTest");
    }

    private static void run(int seed) {
        Random random = new Random(seed);
        CoveSignals x = new CoveSignals();
        Model model = new Model();
        boolean slow = seed % 2 == 0;
        for (int i = 0; i < CALLS / 2; i++) {
            Form form = pick(random);
            int[] a = new int[form.bounds.length / 2];
            for (int k = 0; k < a.length; k++) {
                a[k] = argument(random, form.bounds[2 * k], form.bounds[2 * k + 1]);
            }
            if (form.name.equals("pass") && slow && a[0] > 1) {
                a[0] = 1 + a[0] % 3;
            }
            String name = "run " + seed + ", call " + i + ": " + form.name + java.util.Arrays.toString(a);
            Check.dueText(name, answer(() -> make(x, form.name, a)), answer(() -> model.call(form.name, a)));
            Check.due(name + ", then digest", x.digest(), model.digest());
        }
    }

    private static Form pick(Random random) {
        int all = 0;
        for (Form form : FORMS) {
            all += form.often;
        }
        int left = random.nextInt(all);
        for (Form form : FORMS) {
            left -= form.often;
            if (left < 0) {
                return form;
            }
        }
        throw new AssertionError();
    }

    private static int argument(Random random, int least, int greatest) {
        int[] wrong = {least - 1, greatest + 1, Integer.MIN_VALUE, Integer.MAX_VALUE};
        switch (random.nextInt(16)) {
            case 0: return wrong[random.nextInt(4)];
            case 1: return least;
            case 2: return greatest;
            default: return least + random.nextInt(greatest - least + 1);
        }
    }

    private static String answer(Check.Call call) {
        try {
            return String.valueOf(call.run());
        } catch (RuntimeException e) {
            return "throws." + e.getClass().getName();
        }
    }

    private static double make(CoveSignals x, String name, int[] a) {
        switch (name) {
            case "setRoom": return x.setRoom(a[0], a[1]);
            case "setCode": return x.setCode(a[0], a[1]);
            case "lantern": return x.lantern(a[0]);
            case "setShow": return x.setShow(a[0], a[1], a[2]);
            case "watchman": return x.watchman(a[0], a[1], a[2]);
            case "boat": return x.boat(a[0], a[1]);
            case "send": return x.send(a[0], a[1]);
            case "carry": return x.carry(a[0], a[1]);
            case "told": return x.told(a[0], a[1]);
            case "about": return x.about(a[0], a[1]);
            case "light": return x.light(a[0], a[1]);
            case "code": return x.code(a[0], a[1]);
            case "place": return x.place(a[0], a[1]);
            case "moon": return x.moon(a[0]);
            case "count": return x.count(a[0]);
            case "pass": return x.pass(a[0]);
            case "until": return x.until(a[0]);
            case "foresee": return x.foresee(a[0], a[1]);
            case "advise": return x.advise(a[0]);
            case "quiet": return x.quiet(a[0]);
            case "mean": return x.mean();
            default: throw new AssertionError(name);
        }
    }
}
