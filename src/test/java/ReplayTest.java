import java.util.ArrayList;
import java.util.List;
import java.util.Random;

/** Promises 17 to 21 in long mixed runs: what would be is what is, when the same calls are made on a new object. */
public final class ReplayTest {
    private static final int RUNS = 120;
    private static final int CALLS = 60;

    private final Random random;
    private final List<int[]> log = new ArrayList<>();
    private final CoveSignals x = new CoveSignals();
    private int balesBrought = 0;

    private ReplayTest(int seed) {
        random = new Random(seed);
    }

    public static void main(String[] args) {
        for (int seed = 0; seed < RUNS; seed++) {
            new ReplayTest(seed).run();
        }
        Check.end("ReplayTest");
    }

    private void run() {
        for (int i = 0; i < CALLS; i++) {
            callSomething();
            checkBales();
            if (i % 6 == 5) {
                checkForesight();
            }
        }
        Check.due("digest of a replay", replay().digest(), x.digest());
    }

    private void callSomething() {
        int[] call = {random.nextInt(12), random.nextInt(17), random.nextInt(17), random.nextInt(9)};
        if (call[0] == 0) {
            call[2] = random.nextInt(31);
        }
        try {
            make(x, call);
            log.add(call);
            if (call[0] == 5) {
                balesBrought += call[2];
            }
        } catch (IndexOutOfBoundsException | IllegalArgumentException | IllegalStateException e) {
            if (e.getClass().getName().startsWith("java.lang.Array")) {
                throw e;
            }
        }
    }

    private static void make(CoveSignals on, int[] call) {
        switch (call[0]) {
            case 0 -> on.setRoom(call[1], call[2]);
            case 1 -> on.setCode(call[3], call[1] - 1);
            case 2 -> on.lantern(call[1]);
            case 3 -> on.setShow(call[1] % 6, call[2] % 11, call[3]);
            case 4 -> on.watchman(Math.min(call[1], call[2]), Math.max(call[1], call[2]), call[3] % 4);
            case 5 -> on.boat(call[1], call[2]);
            case 6 -> on.send(call[1] % 7, call[2] - 1);
            case 7 -> on.carry(call[1], call[3]);
            default -> on.pass(1 + call[3]);
        }
    }

    private CoveSignals replay() {
        CoveSignals y = new CoveSignals();
        for (int[] call : log) {
            make(y, call);
        }
        return y;
    }

    private void checkBales() {
        int bales = x.count(7) + x.count(8) + x.count(9);
        int unloaded = 0;
        for (int boat = 0; boat < x.count(3); boat++) {
            bales += x.told(boat, 1);
            unloaded += x.told(boat, 4);
        }
        Check.due("no bale is lost", bales, balesBrought);
        Check.due("what was unloaded is in caves or carried off", x.count(7) + x.count(9), unloaded);
        Check.due("every boat is somewhere", x.count(4) + x.count(5) + x.count(6), x.count(3));
    }

    private void checkForesight() {
        long before = x.digest();
        int hours = 1 + random.nextInt(60);
        CoveSignals y = replay();
        int unloaded = y.count(7);
        Check.due("pass(" + hours + ")", y.pass(hours), y.count(7) - unloaded);
        for (int what = 4; what <= 10; what++) {
            Check.due("foresee(" + hours + ", " + what + ")", x.foresee(hours, what), y.count(what));
        }
        for (int boat = 0; boat < x.count(3); boat++) {
            Check.due("until(" + boat + ")", x.until(boat), untilByReplay(boat));
            if (x.told(boat, 3) < 3) {
                Check.due("advise(" + boat + ")", x.advise(boat), adviceByReplay(boat));
            }
        }
        for (int place = 0; place < 16; place++) {
            Check.due("quiet(" + place + ")", x.quiet(place), quietByReplay(place));
        }
        Check.due("nothing is changed", x.digest(), before);
    }

    private int untilByReplay(int boat) {
        CoveSignals y = replay();
        for (int hours = 0; hours <= 120; hours++) {
            if (y.told(boat, 3) == 3) {
                return hours;
            }
            y.pass(1);
        }
        return -1;
    }

    private int adviceByReplay(int boat) {
        int best = -1;
        int most = -1;
        for (int place = 15; place >= 0; place--) {
            CoveSignals y = replay();
            y.send(boat, place);
            y.pass(40);
            if (y.count(7) >= most) {
                most = y.count(7);
                best = place;
            }
        }
        return best;
    }

    private int quietByReplay(int place) {
        CoveSignals y = replay();
        for (int hours = 0; hours <= 40; hours++) {
            if (y.place(place, 4) == 0) {
                return hours;
            }
            y.pass(1);
        }
        return -1;
    }
}
