/** Promises 18 to 21, with cases worked out by hand: until, foresee, advise, quiet. */
public final class ForesightTest {
    public static void main(String[] args) {
        promise18Until();
        promise18FarthestHour();
        promise19Foresee();
        promise20Advise();
        promise20OtherBoats();
        promise20LastHour();
        promise20Throws();
        promise21Quiet();
        promise21FarthestHour();
        Check.end("ForesightTest");
    }

    private static void promise18Until() {
        CoveSignals x = new CoveSignals();
        x.setRoom(5, 30);
        x.boat(2, 9);
        x.boat(8, 9);
        x.boat(11, 9);
        x.boat(12, 4);
        x.send(0, 5);
        x.send(2, 11);
        x.send(3, 12);
        x.setRoom(12, 4);
        x.watchman(15, 15, 1);
        long before = x.digest();
        Check.due("2 hours to go, 3 to unload", x.until(0), 5);
        Check.due("no goal", x.until(1), -1);
        Check.due("seized", x.until(2), -1);
        Check.due("gone behind one hour, ahead of the watchman", x.until(3), 1);
        Check.due("nothing is changed", x.digest(), before);
        x.pass(4);
        Check.due("one hour", x.until(0), 1);
        Check.due("gone now", x.until(3), 0);
        Check.due("seized now", x.until(2), -1);
        x.pass(1);
        Check.due("gone", x.until(0), 0);
        Check.outOfBounds(x, "until(4)", () -> x.until(4));
        Check.outOfBounds(x, "until(-1)", () -> x.until(-1));
    }

    /**
     * A lantern leads the boat to its cave only when the moon is low enough: in the night 9 (moon 3) it reaches 6
     * places, from the hour 90 on.
     */
    private static CoveSignals goneAtHour(int start, int firstHour) {
        CoveSignals x = new CoveSignals();
        for (int hour = 0; hour < start; hour++) {
            x.pass(1);
        }
        x.setRoom(9, 30);
        x.setCode(1, 9);
        x.lantern(4);
        x.setShow(0, firstHour, 1);
        x.boat(8 + 5, 4);
        return x;
    }

    private static void promise18FarthestHour() {
        // 9 places far: seen at moon 0 alone, in the hours 60 to 69, 180 to 189; it needs 2 hours to go and 1 to unload
        CoveSignals x = goneAtHour(0, 5);
        Check.due("led in the hour 65", x.until(0), 65 + 3);
        x = goneAtHour(70, 7);
        Check.due("led in the hour 187, gone behind 120 hours", x.until(0), 120);
        x = goneAtHour(70, 8);
        Check.due("led in the hour 188, gone behind 121 hours", x.until(0), -1);
        x.pass(1);
        Check.due("an hour later", x.until(0), 120);
    }

    private static void promise19Foresee() {
        CoveSignals x = new CoveSignals();
        x.setRoom(3, 30);
        x.lantern(15);
        x.setShow(0, 0, 6);
        x.setShow(0, 1, 6);
        x.setShow(0, 2, 6);
        x.watchman(15, 15, 0);
        x.boat(3, 7);
        x.boat(11, 9);
        x.boat(8, 9);
        x.boat(3, 4);
        x.send(3, 3);
        x.pass(10);
        x.carry(3, 2);
        x.pass(50);
        x.send(0, 3);
        x.send(1, 15);
        long before = x.digest();
        // in the night 6 the watchman sees no farther than his own place
        long[][] want = {
            {3, 1, 0, 6, 0, 2, 1},
            {1, 2, 1, 9, 9, 2, 1},
        };
        for (int what = 4; what <= 10; what++) {
            Check.due("foresee(1, " + what + ")", x.foresee(1, what), want[0][what - 4]);
            Check.due("foresee(2, " + what + ")", x.foresee(2, what), want[1][what - 4]);
            Check.due("foresee(60, " + what + ")", x.foresee(60, what), want[1][what - 4]);
        }
        Check.due("nothing is changed", x.digest(), before);
        Check.illegalArgument(x, "foresee(0, 3)", () -> x.foresee(0, 3));
        Check.illegalArgument(x, "foresee(61, 11)", () -> x.foresee(61, 11));
        Check.illegalArgument(x, "foresee(-1, 4)", () -> x.foresee(-1, 4));
        Check.outOfBounds(x, "foresee(1, 3)", () -> x.foresee(1, 3));
        Check.outOfBounds(x, "foresee(60, 11)", () -> x.foresee(60, 11));
        Check.outOfBounds(x, "foresee(60, -1)", () -> x.foresee(60, -1));
    }

    private static void promise20Advise() {
        CoveSignals x = new CoveSignals();
        x.boat(8, 10);
        Check.due("no room: the smallest number", x.advise(0), 0);
        x.setRoom(6, 3);
        Check.due("some room", x.advise(0), 6);
        x.setRoom(11, 9);
        Check.due("more room", x.advise(0), 11);
        x.setRoom(3, 10);
        Check.due("room for all", x.advise(0), 3);
        x.setRoom(1, 30);
        x.setRoom(15, 30);
        Check.due("of several the smallest", x.advise(0), 1);
        x.watchman(0, 1, 0);
        long before = x.digest();
        Check.due("watched; 11 holds 9, 15 all", x.advise(0), 15);
        Check.due("nothing is changed", x.digest(), before);
        x.send(0, 11);
        Check.due("wherever it goes now", x.advise(0), 15);
        x.boat(3, 5);
        x.send(1, 15);
        x.setRoom(15, 15);
        Check.due("10 and 5 at 15, or 5 and 9 at 11", x.advise(0), 15);
        x.setRoom(15, 14);
        Check.due("10 and 4 at 15, or 5 and 9 at 11", x.advise(0), 11);
    }

    private static void promise20OtherBoats() {
        CoveSignals x = new CoveSignals();
        x.setRoom(4, 4);
        x.setRoom(9, 30);
        x.boat(4, 20);
        x.boat(9, 20);
        x.send(1, 9);
        Check.due("10 more at 9", x.advise(0), 9);
        x.setRoom(9, 22);
        Check.due("2 more at 9, 4 at 4", x.advise(0), 4);
        x.setRoom(9, 23);
        Check.due("3 more at 9", x.advise(0), 4);
        x.setRoom(9, 24);
        Check.due("as many at both", x.advise(0), 4);
        x.setRoom(9, 25);
        Check.due("5 more at 9", x.advise(0), 9);
    }

    /**
     * Boat 1 is led to its own place, 13, in the hour 62 (at moon 0), and unloads in the hour 63; if that counts, boat
     * 0 had best leave the cave there to it and go to 10, where there is room for less.
     */
    private static void promise20LastHour() {
        CoveSignals x = new CoveSignals();
        x.pass(23);
        x.setRoom(10, 3);
        x.setRoom(13, 4);
        x.setCode(1, 13);
        x.lantern(4);
        x.setShow(0, 2, 1);
        x.boat(11, 4);
        x.boat(13, 4);
        Check.due("the hours 23 to 62", x.advise(0), 13);
        x.pass(1);
        Check.due("the hours 24 to 63", x.advise(0), 10);
    }

    private static void promise20Throws() {
        CoveSignals x = new CoveSignals();
        Check.outOfBounds(x, "advise without boats", () -> x.advise(0));
        x.setRoom(3, 30);
        x.boat(3, 1);
        x.boat(9, 1);
        x.send(0, 3);
        x.send(1, 9);
        x.watchman(9, 9, 0);
        x.pass(1);
        Check.illegalState(x, "advise one that is gone", () -> x.advise(0));
        Check.illegalState(x, "advise one that was seized", () -> x.advise(1));
        Check.outOfBounds(x, "advise(2)", () -> x.advise(2));
        Check.outOfBounds(x, "advise(-1)", () -> x.advise(-1));
    }

    private static void promise21Quiet() {
        CoveSignals x = new CoveSignals();
        Check.due("no watchmen", x.quiet(0), 0);
        x.watchman(4, 6, 0);
        long before = x.digest();
        Check.due("place 8, 4 from him", x.quiet(8), 0);
        Check.due("place 7: he sees 2 places in the hour 12, from 4", x.quiet(7), 12);
        Check.due("place 2: he goes to 5, 6", x.quiet(2), 2);
        Check.due("place 1: he goes to 5", x.quiet(1), 1);
        Check.due("place 5: in the night 6 he sees but his own", x.quiet(5), -1);
        Check.due("nothing is changed", x.digest(), before);
        x.watchman(9, 9, 3);
        Check.due("place 7, of two", x.quiet(7), -1);
        Check.outOfBounds(x, "quiet(-1)", () -> x.quiet(-1));
        Check.outOfBounds(x, "quiet(16)", () -> x.quiet(16));
    }

    private static void promise21FarthestHour() {
        // he sees 3 places in the hours 0 to 9, 2 in 10 to 29, 1 in 30 to 49, none else in 50 to 69
        CoveSignals x = new CoveSignals();
        x.watchman(5, 5, 0);
        Check.due("3 far", x.quiet(8), 10);
        Check.due("2 far", x.quiet(3), 30);
        Check.due("1 far, from the hour 50 on", x.quiet(6), -1);
        x.pass(9);
        Check.due("1 far, 41 hours", x.quiet(6), -1);
        x.pass(1);
        Check.due("1 far, 40 hours", x.quiet(6), 40);
        Check.due("his own place", x.quiet(5), -1);
        x.pass(40);
        Check.due("1 far now", x.quiet(6), 0);
        Check.due("his own place", x.quiet(5), -1);
    }
}
