/** The greatest spans that are asked for, 60 hours, 120 hours and 40 hours, and the answer just behind them. */
public final class SpansTest {
    public static void main(String[] args) {
        passCountsTheLastHour();
        until0IfItIsGoneNow();
        untilAtItsGoal();
        untilOneHoursWayFromIt();
        untilTheLast120thHour();
        untilMinus1IfItIsSeized();
        untilTheCaveIsFull();
        foreseeTheGoneOfThe60thHour();
        foreseeTheSeizedOfThe60thHour();
        foreseeTheKnownOfThe60thHour();
        foreseeWhatStays();
        adviseTheFirstAndTheLastPlace();
        adviseOfSeveralTheSmallest();
        adviseCountsAllCaves();
        adviseSendsItSoItIsLedByNone();
        adviseTheLast40thHour();
        quiet0IfNobodySeesItNow();
        quietTheLast40thHour();
        quietForTheFirstTime();
        quietOfAllWatchmen();
        Check.end("SpansTest");
    }

    private static void passCountsTheLastHour() {
        // 20 bales, 10 hours of way and unloading: the last hour unloads 4
        CoveSignals x = new CoveSignals();
        x.setRoom(10, 30);
        x.boat(0, 20);
        x.send(0, 10);
        Check.due("pass(9)", x.pass(9), 16);
        Check.due("pass(1)", x.pass(1), 4);
        // led in the hour 68 of 10 to 69, to its own place, it unloads in the hour 69
        Check.due("unloaded in the 60th hour", ledIn(68, 10).pass(60), 4);
        Check.due("not in the 61st", ledIn(69, 10).pass(60), 0);
    }

    /**
     * At the hour that is told, nothing but a boat with 4 bales at 13 and a lantern 9 places far, which leads it to
     * where it is in the hour that is told, 60 to 69 or 180 to 189: only then the moon is 0.
     */
    private static CoveSignals ledIn(int hourOfLeading, int now) {
        CoveSignals x = Scenes.atHour(now);
        x.setRoom(13, 30);
        x.setCode(1, 13);
        x.lantern(4);
        x.setShow(0, hourOfLeading % 10, 1);
        x.boat(13, 4);
        return x;
    }

    private static void until0IfItIsGoneNow() {
        CoveSignals x = new CoveSignals();
        x.setRoom(3, 4);
        Scenes.boatAtGoal(x, 3, 4);
        Check.due("behind one hour", x.until(0), 1);
        x.pass(1);
        Check.due("now", x.until(0), 0);
        x.pass(60);
        Check.due("long ago", x.until(0), 0);
    }

    private static void untilAtItsGoal() {
        for (int bales = 1; bales <= 20; bales++) {
            CoveSignals x = new CoveSignals();
            x.setRoom(3, 20);
            Scenes.boatAtGoal(x, 3, bales);
            Check.due("until with " + bales, x.until(0), (bales + 3) / 4);
        }
    }

    private static void untilOneHoursWayFromIt() {
        int[] ways = {0, 1, 1, 2, 2, 3};
        for (int far = 0; far <= 5; far++) {
            CoveSignals x = new CoveSignals();
            x.setRoom(5, 4);
            x.boat(5 + far, 4);
            x.send(0, 5);
            Check.due("until, " + far + " up", x.until(0), ways[far] + 1);
            x = new CoveSignals();
            x.setRoom(5, 4);
            x.boat(5 - far, 4);
            x.send(0, 5);
            Check.due("until, " + far + " down", x.until(0), ways[far] + 1);
        }
    }

    private static void untilTheLast120thHour() {
        Check.due("gone behind 119 hours", ledIn(187, 70).until(0), 119);
        Check.due("gone behind 120 hours", ledIn(188, 70).until(0), 120);
        Check.due("gone behind 121 hours", ledIn(189, 70).until(0), -1);
    }

    private static void untilMinus1IfItIsSeized() {
        CoveSignals x = new CoveSignals();
        x.setRoom(3, 30);
        Scenes.boatAtGoal(x, 3, 5);
        x.watchman(3, 3, 0);
        Check.due("seized in the hour that comes", x.until(0), -1);
        x.pass(1);
        Check.due("seized now", x.until(0), -1);
        Check.due("4 of its bales were unloaded", x.told(0, 4), 4);
        Scenes.boatAtGoal(x, 3, 4);
        Check.due("gone ahead of the watchman", x.until(1), 1);
    }

    private static void untilTheCaveIsFull() {
        CoveSignals x = new CoveSignals();
        x.setRoom(3, 7);
        Scenes.boatAtGoal(x, 3, 8);
        Check.due("room for one less", x.until(0), -1);
        x.setRoom(3, 8);
        Check.due("room for all", x.until(0), 2);
        Scenes.boatAtGoal(x, 3, 1);
        Check.due("the other one takes of it", x.until(1), 1);
        Check.due("and leaves too little", x.until(0), -1);
        x.setRoom(3, 9);
        Check.due("room for both", x.until(0), 2);
        Check.due("room for both", x.until(1), 1);
    }

    private static void foreseeTheGoneOfThe60thHour() {
        // it unloads in the hour 66
        CoveSignals x = ledIn(65, 7);
        Check.due("the 60th hour: at sea", x.foresee(60, 4), 0);
        Check.due("the 60th hour: gone", x.foresee(60, 5), 1);
        Check.due("the 60th hour: bales in caves", x.foresee(60, 7), 4);
        Check.due("the 59th hour: gone", x.foresee(59, 5), 0);
        x = ledIn(65, 6);
        Check.due("the 61st hour: at sea", x.foresee(60, 4), 1);
        Check.due("the 61st hour: gone", x.foresee(60, 5), 0);
        Check.due("the 61st hour: bales in caves", x.foresee(60, 7), 0);
    }

    private static void foreseeTheSeizedOfThe60thHour() {
        // it is seized in the hour 65, in which it is led
        CoveSignals x = ledIn(65, 6);
        x.watchman(13, 13, 0);
        Check.due("the 60th hour: at sea", x.foresee(60, 4), 0);
        Check.due("the 60th hour: seized", x.foresee(60, 6), 1);
        Check.due("the 60th hour: bales seized", x.foresee(60, 8), 4);
        Check.due("the 59th hour: seized", x.foresee(59, 6), 0);
        x = ledIn(65, 5);
        x.watchman(13, 13, 0);
        Check.due("the 61st hour: at sea", x.foresee(60, 4), 1);
        Check.due("the 61st hour: seized", x.foresee(60, 6), 0);
        Check.due("the 61st hour: bales seized", x.foresee(60, 8), 0);
    }

    /** Six places far, the lantern is seen at moon 0 alone: in the hours 60, 61 and 62. */
    private static CoveSignals knownBehindHour62(int now) {
        CoveSignals x = Scenes.atHour(now);
        x.watchman(0, 0, 0);
        x.lantern(6);
        x.setShow(0, 0, 4);
        x.setShow(0, 1, 4);
        x.setShow(0, 2, 4);
        return x;
    }

    private static void foreseeTheKnownOfThe60thHour() {
        Check.due("the 60th hour", knownBehindHour62(3).foresee(60, 10), 1);
        Check.due("the 59th hour", knownBehindHour62(3).foresee(59, 10), 0);
        Check.due("the 61st hour", knownBehindHour62(2).foresee(60, 10), 0);
    }

    private static void foreseeWhatStays() {
        CoveSignals x = new CoveSignals();
        x.setRoom(3, 30);
        Scenes.boatAtGoal(x, 3, 8);
        x.pass(1);
        x.carry(3, 3);
        Check.due("foresee(1, 9)", x.foresee(1, 9), 3);
        Check.due("foresee(60, 9)", x.foresee(60, 9), 3);
        Check.due("foresee(60, 7)", x.foresee(60, 7), 5);
        Check.due("now still", x.count(7), 1);
    }

    private static void adviseTheFirstAndTheLastPlace() {
        CoveSignals x = new CoveSignals();
        x.boat(8, 10);
        x.setRoom(15, 10);
        Check.due("the last", x.advise(0), 15);
        x.setRoom(0, 11);
        Check.due("the first, and none unloads more than it has", x.advise(0), 0);
    }

    private static void adviseOfSeveralTheSmallest() {
        CoveSignals x = new CoveSignals();
        x.boat(8, 10);
        Check.due("no room at all", x.advise(0), 0);
        x.setRoom(9, 10);
        x.setRoom(7, 10);
        x.setRoom(14, 30);
        Check.due("of three", x.advise(0), 7);
        x.setRoom(7, 9);
        Check.due("of two", x.advise(0), 9);
        x.send(0, 14);
        Check.due("wherever it goes", x.advise(0), 9);
    }

    private static void adviseCountsAllCaves() {
        CoveSignals x = new CoveSignals();
        x.boat(8, 6);
        x.setRoom(4, 6);
        x.setRoom(10, 6);
        Check.due("4 or 10", x.advise(0), 4);
        x.boat(4, 6);
        x.send(1, 4);
        Check.due("4 is for the other one", x.advise(0), 10);
        x.setRoom(10, 0);
        Check.due("no more by any", x.advise(0), 0);
    }

    private static void adviseSendsItSoItIsLedByNone() {
        CoveSignals x = new CoveSignals();
        x.setCode(1, 13);
        x.lantern(9);
        x.setShow(0, 0, 1);
        x.setShow(0, 1, 1);
        x.setShow(0, 2, 1);
        x.watchman(9, 9, 0);
        x.boat(12, 20);
        x.setRoom(13, 20);
        x.setRoom(0, 3);
        Check.due("sent it comes there ahead of it being known", x.advise(0), 13);
        x.pass(1);
        Check.due("led to 13", x.told(0, 5), 1);
        Check.due("left alone it is seized", x.until(0), -1);
        Check.due("sent to 13 it is not led there", x.advise(0), 13);
        x.send(0, 13);
        Check.due("and all is unloaded", x.pass(40), 20);
    }

    /** Boat 1 unloads in the hour 69; if that counts, boat 0 leaves the cave there to it, for one of less room. */
    private static CoveSignals twoBoats(int now) {
        CoveSignals x = Scenes.atHour(now);
        x.setRoom(13, 4);
        x.setRoom(9, 2);
        x.setCode(1, 13);
        x.lantern(4);
        x.setShow(0, 8, 1);
        x.boat(11, 4);
        x.boat(13, 4);
        return x;
    }

    private static void adviseTheLast40thHour() {
        Check.due("the 40th hour", twoBoats(30).advise(0), 9);
        Check.due("the 41st hour", twoBoats(29).advise(0), 13);
    }

    private static void quiet0IfNobodySeesItNow() {
        CoveSignals x = new CoveSignals();
        Check.due("without watchmen", x.quiet(5), 0);
        x.watchman(0, 0, 0);
        Check.due("4 far", x.quiet(4), 0);
        Check.due("3 far", x.quiet(3), 10);
    }

    private static void quietTheLast40thHour() {
        // 1 far, he sees it till the hour 49, and not in the hours 50 to 79, at moon 1 and 0
        for (int now = 8; now <= 12; now++) {
            CoveSignals x = Scenes.atHour(now);
            x.watchman(0, 0, 0);
            Check.due("1 far, in the hour " + now, x.quiet(1), now < 10 ? -1 : 50 - now);
            Check.due("his own place", x.quiet(0), -1);
        }
    }

    private static void quietForTheFirstTime() {
        // he goes 0, 1, 2, .. and sees 3 far: behind 3 hours he stands at 3, behind 4 hours place 0 is 4 far
        CoveSignals x = new CoveSignals();
        x.watchman(0, 15, 0);
        Check.due("place 0", x.quiet(0), 4);
        Check.due("place 3", x.quiet(3), 7);
        Check.due("place 4", x.quiet(4), 0);
        x.pass(1);
        Check.due("place 4 is seen from 1", x.quiet(4), 7);
    }

    private static void quietOfAllWatchmen() {
        CoveSignals x = new CoveSignals();
        x.watchman(0, 15, 0);
        x.watchman(5, 5, 0);
        Check.due("place 3, seen from 5 till the moon is 3", x.quiet(3), 30);
        x.watchman(3, 3, 0);
        Check.due("one stands there", x.quiet(3), -1);
    }
}
