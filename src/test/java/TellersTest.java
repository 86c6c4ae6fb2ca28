/** Promises 10 to 16: told, about, light, code, place, moon, count. */
public final class TellersTest {
    public static void main(String[] args) {
        promise10Told();
        promise11About();
        promise12Light();
        promise12OtherEyes();
        promise13Code();
        promise13BoatsLed();
        promise14Place();
        promise15Moon();
        promise16Count();
        promise16KnownCodes();
        Check.end("TellersTest");
    }

    private static void promise10Told() {
        CoveSignals x = new CoveSignals();
        x.setRoom(6, 9);
        x.setCode(5, 6);
        x.lantern(3);
        x.setShow(0, 0, 5);
        x.boat(3, 6);
        x.boat(12, 2);
        x.pass(1);
        Check.dueAll("at sea, not at its goal", Scenes.told(x, 0), 5, 6, 6, 1, 0, 5, 1);
        Check.dueAll("at sea without a goal", Scenes.told(x, 1), 12, 2, -1, 0, 0, 0, 1);
        x.pass(1);
        Check.dueAll("at its goal", Scenes.told(x, 0), 6, 6, 6, 2, 0, 5, 1);
        x.pass(1);
        Check.dueAll("unloads", Scenes.told(x, 0), 6, 2, 6, 2, 4, 5, 1);
        x.pass(1);
        Check.dueAll("gone", Scenes.told(x, 0), 6, 0, 6, 3, 6, 5, 1);
        x.send(1, 14);
        x.watchman(14, 14, 0);
        x.pass(1);
        Check.dueAll("seized", Scenes.told(x, 1), 14, 0, 14, 4, 0, 0, 0);
        Check.outOfBounds(x, "told(2, 0)", () -> x.told(2, 0));
        Check.outOfBounds(x, "told(-1, 0)", () -> x.told(-1, 0));
        Check.outOfBounds(x, "told(6, 0)", () -> x.told(6, 0));
        Check.outOfBounds(x, "told(0, 7)", () -> x.told(0, 7));
        Check.outOfBounds(x, "told(0, -1)", () -> x.told(0, -1));
    }

    private static void promise11About() {
        CoveSignals x = new CoveSignals();
        x.watchman(3, 5, 2);
        Check.dueAll("about, moon 6", Scenes.about(x, 0), 3, 1, 5, 4, 0);
        x.pass(2);
        Check.dueAll("at the greater end", Scenes.about(x, 0), 5, 1, 5, 4, 0);
        x.pass(1);
        Check.dueAll("goes down", Scenes.about(x, 0), 4, -1, 5, 4, 0);
        x.boat(2, 9);
        x.send(0, 2);
        x.boat(2, 9);
        x.send(1, 2);
        x.pass(6);
        Check.dueAll("hour 9, moon 6", Scenes.about(x, 0), 4, 1, 5, 4, 2);
        x.pass(1);
        Check.dueAll("hour 10, moon 5", Scenes.about(x, 0), 5, 1, 4, 5, 2);
        x.pass(50);
        Check.dueAll("hour 60, moon 0", Scenes.about(x, 0), 3, -1, 2, 10, 2);
        x.watchman(8, 8, 0);
        Check.dueAll("the second", Scenes.about(x, 1), 8, 1, 0, 6, 0);
        Check.outOfBounds(x, "about(2, 0)", () -> x.about(2, 0));
        Check.outOfBounds(x, "about(-1, 0)", () -> x.about(-1, 0));
        Check.outOfBounds(x, "about(0, 5)", () -> x.about(0, 5));
        Check.outOfBounds(x, "about(0, -1)", () -> x.about(0, -1));
    }

    private static void promise12Light() {
        CoveSignals x = new CoveSignals();
        x.lantern(5);
        x.lantern(9);
        x.watchman(5, 6, 0);
        x.watchman(7, 7, 1);
        x.setShow(0, 0, 3);
        x.setShow(0, 1, 4);
        x.setShow(0, 2, 0);
        Check.dueAll("hour 0", Scenes.light(x, 0), 5, 3, 2, 0);
        Check.dueAll("one that does not shine", Scenes.light(x, 1), 9, 0, 1, 0);
        x.pass(1);
        Check.dueAll("hour 1, seen once by two", Scenes.light(x, 0), 5, 4, 1, 1);
        x.pass(1);
        Check.dueAll("hour 2, whatever code", Scenes.light(x, 0), 5, 0, 2, 2);
        x.pass(7);
        Check.dueAll("hour 9", Scenes.light(x, 0), 5, 0, 1, 2);
        x.pass(1);
        Check.dueAll("hour 10 shows what hour 0 does, moon 5", Scenes.light(x, 0), 5, 3, 2, 2);
        Check.dueAll("moon 5", Scenes.light(x, 1), 9, 0, 1, 0);
        Check.outOfBounds(x, "light(2, 0)", () -> x.light(2, 0));
        Check.outOfBounds(x, "light(-1, 0)", () -> x.light(-1, 0));
        Check.outOfBounds(x, "light(0, 4)", () -> x.light(0, 4));
        Check.outOfBounds(x, "light(0, -1)", () -> x.light(0, -1));
    }

    private static void promise12OtherEyes() {
        for (int eyes = 0; eyes <= 3; eyes++) {
            for (int night = 0; night <= 6; night++) {
                CoveSignals x = new CoveSignals();
                for (int hour = 0; hour < night; hour++) {
                    x.pass(10);
                }
                x.watchman(0, 0, eyes);
                int sight = 2 * eyes + night;
                x.lantern(sight);
                x.lantern(sight + 1);
                Check.due("sees as far as " + sight, x.light(0, 2), 1);
                Check.due("sees no farther than " + sight, x.light(1, 2), 0);
            }
        }
    }

    private static void promise13Code() {
        CoveSignals x = new CoveSignals();
        x.setCode(6, 2);
        x.lantern(2);
        x.setShow(0, 0, 6);
        x.setShow(0, 1, 6);
        x.setShow(0, 2, 6);
        x.watchman(2, 2, 0);
        x.boat(2, 2);
        x.boat(5, 2);
        x.boat(6, 2);
        x.pass(1);
        Check.due("names", x.code(6, 0), 2);
        Check.due("seen", x.code(6, 1), 1);
        Check.due("not known", x.code(6, 2), 0);
        Check.due("boats at sea led by it, one of two is seized", x.code(6, 3), 1);
        x.pass(1);
        Check.due("seen twice", x.code(6, 1), 2);
        Check.due("not known yet", x.code(6, 2), 0);
        x.pass(1);
        Check.due("seen thrice", x.code(6, 1), 3);
        Check.due("known", x.code(6, 2), 1);
        Check.due("known codes", x.count(10), 1);
        Check.due("another", x.code(5, 1), 0);
        Check.outOfBounds(x, "code(0, 0)", () -> x.code(0, 0));
        Check.outOfBounds(x, "code(8, 0)", () -> x.code(8, 0));
        Check.outOfBounds(x, "code(-1, 0)", () -> x.code(-1, 0));
        Check.outOfBounds(x, "code(1, 4)", () -> x.code(1, 4));
        Check.outOfBounds(x, "code(1, -1)", () -> x.code(1, -1));
    }

    private static void promise13BoatsLed() {
        CoveSignals x = new CoveSignals();
        x.setCode(1, 0);
        x.setCode(7, 15);
        x.lantern(3);
        x.lantern(12);
        x.setShow(0, 0, 1);
        x.setShow(1, 0, 7);
        int[] places = {3, 4, 12, 13, 14, 5};
        for (int place : places) {
            x.boat(place, 20);
        }
        x.pass(1);
        Check.due("led by 1", x.code(1, 3), 3);
        Check.due("led by 7", x.code(7, 3), 3);
        x.send(0, 3);
        x.send(5, -1);
        Check.due("two were sent", x.code(1, 3), 1);
        Check.dueReal("the mean of six boats", x.mean(), 20.0);
    }

    private static void promise14Place() {
        CoveSignals x = new CoveSignals();
        x.setRoom(7, 5);
        x.boat(7, 3);
        x.boat(7, 9);
        x.boat(7, 2);
        x.boat(8, 2);
        x.send(0, 7);
        x.pass(1);
        x.watchman(7, 9, 0);
        x.watchman(7, 7, 1);
        x.watchman(1, 1, 3);
        long[] got = new long[5];
        for (int what = 0; what <= 4; what++) {
            got[what] = x.place(7, what);
        }
        Check.dueAll("place 7", got, 5, 3, 2, 2, 3);
        Check.due("boats at sea at 8", x.place(8, 3), 1);
        x.boat(2, 1);
        x.boat(2, 1);
        Check.due("two boats at 2", x.place(2, 3), 2);
        CoveSignals y = new CoveSignals();
        y.boat(4, 1);
        Check.due("the boat 0", y.place(4, 3), 1);
        Check.due("place(10, 4)", x.place(10, 4), 2);
        Check.due("place(11, 4)", x.place(11, 4), 1);
        Check.due("place(12, 4)", x.place(12, 4), 0);
        x.pass(9);
        Check.due("hour 10, moon 5", x.place(7, 4), 2);
        Check.due("he went on", x.place(7, 2), 1);
        x.pass(10);
        Check.due("hour 20, moon 4", x.place(7, 4), 2);
        Check.due("place(4, 4), moon 4", x.place(4, 4), 2);
        x.pass(10);
        Check.due("place(4, 4), moon 3", x.place(4, 4), 1);
        Check.outOfBounds(x, "place(-1, 0)", () -> x.place(-1, 0));
        Check.outOfBounds(x, "place(16, 0)", () -> x.place(16, 0));
        Check.outOfBounds(x, "place(0, 5)", () -> x.place(0, 5));
        Check.outOfBounds(x, "place(0, -1)", () -> x.place(0, -1));
    }

    private static void promise15Moon() {
        CoveSignals x = new CoveSignals();
        int[] moons = {6, 5, 4, 3, 2, 1, 0, 1, 2, 3, 4, 5};
        for (int night = 0; night <= 999; night++) {
            Check.due("moon(" + night + ")", x.moon(night), moons[night % 12]);
        }
        Check.illegalArgument(x, "moon(-1)", () -> x.moon(-1));
        Check.illegalArgument(x, "moon(1000)", () -> x.moon(1000));
        Check.illegalArgument(x, "moon(least)", () -> x.moon(Integer.MIN_VALUE));
        Check.illegalArgument(x, "moon(most)", () -> x.moon(Integer.MAX_VALUE));
    }

    private static void promise16Count() {
        CoveSignals x = new CoveSignals();
        x.setRoom(2, 9);
        x.setRoom(3, 9);
        x.lantern(12);
        x.setShow(0, 0, 4);
        x.setShow(0, 1, 4);
        x.setShow(0, 2, 4);
        x.watchman(12, 12, 0);
        x.watchman(13, 13, 0);
        x.boat(2, 4);
        x.boat(3, 10);
        x.boat(12, 7);
        x.boat(9, 3);
        x.boat(7, 3);
        x.send(0, 2);
        x.send(1, 3);
        x.send(2, 12);
        x.pass(3);
        x.carry(3, 2);
        x.carry(2, 3);
        Check.dueAll("count", Scenes.count(x), 3, 1, 2, 5, 3, 1, 1, 8, 7, 5, 1);
        Check.outOfBounds(x, "count(-1)", () -> x.count(-1));
        Check.outOfBounds(x, "count(11)", () -> x.count(11));
    }

    private static void promise16KnownCodes() {
        CoveSignals x = new CoveSignals();
        x.watchman(5, 5, 3);
        for (int code = 1; code <= 7; code++) {
            if (code == 1) {
                x.lantern(5);
            }
            for (int hour = 0; hour < 10; hour++) {
                x.setShow(0, hour, code);
            }
            x.pass(2);
            Check.due("code " + code + " was seen twice", x.count(10), code - 1);
            x.pass(1);
            Check.due("code " + code + " was seen thrice", x.count(10), code);
        }
        x.setCode(7, 3);
        Check.due("code 7 is told anew", x.count(10), 6);
    }
}
