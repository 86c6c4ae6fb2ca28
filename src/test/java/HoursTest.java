/** Promise 17, pass, with the four steps of an hour; promise 22, mean. */
public final class HoursTest {
    public static void main(String[] args) {
        promise17Pass();
        promise17PassAddsHours();
        step1SeenOnceForALantern();
        step1SeenBeforeTheyWalk();
        step2Unloading();
        step2FullCaveLooksAtNoLanterns();
        step2RoomIsSharedByNumbers();
        step2HowFarLanternsReach();
        step2NearestLantern();
        step2Sailing();
        step2LedToItsOwnPlace();
        step3Walking();
        step3HowFarHeSeizes();
        step3KnownCode();
        step3KnownInTheSameHour();
        step3OneBoatEach();
        step3WalksAheadOfSeizing();
        promise22Mean();
        Check.end("HoursTest");
    }

    private static CoveSignals atNight(int night) {
        CoveSignals x = new CoveSignals();
        for (int i = 0; i < night; i++) {
            x.pass(10);
        }
        return x;
    }

    private static void promise17Pass() {
        CoveSignals x = new CoveSignals();
        Check.due("pass(1)", x.pass(1), 0);
        Check.due("hour", x.count(0), 1);
        Check.due("pass(60)", x.pass(60), 0);
        Check.due("hour", x.count(0), 61);
        x.setRoom(5, 30);
        x.setRoom(6, 2);
        x.boat(3, 9);
        x.boat(6, 9);
        x.send(0, 5);
        x.send(1, 6);
        Check.due("one unloads 2, one sails", x.pass(1), 2);
        Check.due("one unloads 8", x.pass(2), 8);
        Check.due("one unloads the last", x.pass(60), 1);
        Check.illegalArgument(x, "pass(0)", () -> x.pass(0));
        Check.illegalArgument(x, "pass(61)", () -> x.pass(61));
        Check.illegalArgument(x, "pass(-1)", () -> x.pass(-1));
        Check.illegalArgument(x, "pass(most)", () -> x.pass(Integer.MAX_VALUE));
    }

    private static void promise17PassAddsHours() {
        CoveSignals x = new CoveSignals();
        x.setRoom(5, 30);
        x.boat(5, 9);
        x.send(0, 5);
        x.watchman(8, 8, 0);
        Check.due("unloaded, though the rest is seized", x.pass(5), 4);
        Check.due("seized", x.count(8), 5);
        Check.due("in the cave", x.count(7), 4);
    }

    private static void step1SeenOnceForALantern() {
        CoveSignals x = new CoveSignals();
        x.lantern(4);
        x.lantern(5);
        x.lantern(8);
        Scenes.showAlways(x, 0, 2);
        Scenes.showAlways(x, 1, 2);
        Scenes.showAlways(x, 2, 2);
        x.watchman(4, 4, 1);
        x.watchman(5, 5, 0);
        x.pass(1);
        Check.due("two lanterns are seen", x.code(2, 1), 2);
        Check.due("once by two", x.light(0, 3), 1);
        Check.due("once by two", x.light(1, 3), 1);
        Check.due("too far", x.light(2, 3), 0);
        x.pass(1);
        Check.due("again", x.code(2, 1), 4);
        Check.due("names no place", x.code(2, 0), -1);
        x.setShow(0, 2, 0);
        x.setShow(1, 2, 7);
        x.pass(1);
        Check.due("dark", x.light(0, 3), 2);
        Check.due("another code", x.code(7, 1), 1);
        Check.due("and not the first", x.code(2, 1), 4);
    }

    private static void step1SeenBeforeTheyWalk() {
        CoveSignals x = new CoveSignals();
        x.lantern(5);
        Scenes.showAlways(x, 0, 1);
        x.watchman(5, 6, 0);
        x.pass(1);
        Check.due("seen from where he stood", x.light(0, 3), 1);
        x.pass(1);
        Check.due("not from 6", x.light(0, 3), 1);
        x.pass(1);
        Check.due("seen from 5", x.light(0, 3), 2);
    }

    private static void step2Unloading() {
        CoveSignals x = new CoveSignals();
        x.setRoom(3, 30);
        x.boat(3, 9);
        x.send(0, 3);
        Check.due("4 at most", x.pass(1), 4);
        Check.due("left", x.told(0, 1), 5);
        Check.due("at its goal", x.told(0, 3), 2);
        Check.due("4 again", x.pass(1), 4);
        Check.due("at sea with one bale", x.told(0, 3), 2);
        Check.due("the last", x.pass(1), 1);
        Check.due("gone", x.told(0, 3), 3);
        Check.due("unloaded", x.told(0, 4), 9);
        Check.due("in the cave", x.place(3, 1), 9);
        x.boat(3, 4);
        x.send(1, 3);
        Check.due("exactly 4", x.pass(1), 4);
        Check.due("gone at once", x.told(1, 3), 3);
        x.boat(3, 5);
        x.setRoom(3, 15);
        x.send(2, 3);
        Check.due("as much as there is room for", x.pass(1), 2);
        Check.due("full", x.pass(3), 0);
        x.carry(3, 1);
        Check.due("room again", x.pass(3), 1);
        x.setRoom(3, 30);
        Check.due("more room", x.pass(1), 2);
        Check.due("gone too", x.told(2, 3), 3);
    }

    private static void step2FullCaveLooksAtNoLanterns() {
        CoveSignals x = new CoveSignals();
        x.lantern(5);
        x.setCode(1, 5);
        Scenes.showAlways(x, 0, 1);
        x.boat(5, 5);
        x.pass(2);
        Check.due("lies at its goal", x.told(0, 3), 2);
        x.setCode(1, 9);
        x.setCode(2, 12);
        Scenes.showAlways(x, 0, 2);
        x.pass(5);
        Check.due("stays, as the cave has no room", x.told(0, 0), 5);
        Check.due("goal stays", x.told(0, 2), 5);
        Check.due("led by the first still", x.told(0, 5), 1);
        Check.due("minds", x.told(0, 6), 1);
        x.send(0, -1);
        x.pass(1);
        Check.due("looks now", x.told(0, 5), 2);
        Check.due("and goes", x.told(0, 0), 7);
    }

    private static void step2RoomIsSharedByNumbers() {
        CoveSignals x = new CoveSignals();
        x.setRoom(5, 5);
        x.boat(5, 8);
        x.boat(5, 8);
        x.boat(5, 8);
        x.send(1, 5);
        x.send(2, 5);
        x.send(0, 5);
        Check.due("5 in all", x.pass(1), 5);
        Check.due("boat 0", x.told(0, 4), 4);
        Check.due("boat 1", x.told(1, 4), 1);
        Check.due("boat 2", x.told(2, 4), 0);
    }

    private static void step2HowFarLanternsReach() {
        for (int night = 0; night < 13; night++) {
            CoveSignals x = atNight(night);
            int reach = 9 - x.moon(night);
            x.lantern(0);
            Scenes.showAlways(x, 0, 4);
            x.setCode(4, 15);
            x.boat(reach, 5);
            x.boat(reach + 1, 5);
            x.pass(1);
            Check.due("night " + night + " within reach", x.told(0, 5), 4);
            Check.due("night " + night + " goal", x.told(0, 2), 15);
            Check.due("night " + night + " went on", x.told(0, 0), reach + 2);
            Check.due("night " + night + " out of reach", x.told(1, 5), 0);
            Check.due("night " + night + " without a goal", x.told(1, 2), -1);
            Check.due("night " + night + " stays", x.told(1, 0), reach + 1);
        }
    }

    private static void step2NearestLantern() {
        CoveSignals x = atNight(6);
        x.lantern(10);
        x.lantern(4);
        x.lantern(7);
        x.lantern(8);
        Scenes.showAlways(x, 0, 1);
        Scenes.showAlways(x, 1, 2);
        Scenes.showAlways(x, 2, 3);
        x.setCode(1, 15);
        x.setCode(2, 0);
        x.boat(7, 9);
        x.pass(1);
        Check.due("of two the smaller number; without a place or dark none", x.told(0, 5), 1);
        Check.due("goes up", x.told(0, 0), 9);
        x.setShow(0, 1, 0);
        x.pass(1);
        Check.due("the other one", x.told(0, 5), 2);
        Check.due("goes down", x.told(0, 0), 7);
        x.setShow(3, 2, 1);
        x.pass(1);
        Check.due("a nearer one with a greater number", x.told(0, 5), 1);
        Check.due("goes up again", x.told(0, 0), 9);
        x.setShow(0, 3, 0);
        x.setShow(1, 3, 0);
        x.pass(1);
        Check.due("without any, it stays led", x.told(0, 5), 1);
        Check.due("and its goal stays", x.told(0, 2), 15);
        Check.due("and it goes on", x.told(0, 0), 11);
    }

    private static void step2Sailing() {
        CoveSignals x = new CoveSignals();
        x.setRoom(9, 30);
        x.boat(4, 9);
        x.boat(15, 9);
        x.boat(7, 9);
        x.send(0, 9);
        x.send(1, 9);
        Check.due("none unloads", x.pass(1), 0);
        Check.due("up 2", x.told(0, 0), 6);
        Check.due("down 2", x.told(1, 0), 13);
        Check.due("without a goal", x.told(2, 0), 7);
        x.pass(1);
        Check.due("up 2", x.told(0, 0), 8);
        Check.due("down 2", x.told(1, 0), 11);
        x.send(2, 10);
        Check.due("none unloads as it comes", x.pass(1), 0);
        Check.due("up 1", x.told(0, 0), 9);
        Check.due("down 2 exactly", x.told(1, 0), 9);
        Check.due("up 2 of 3", x.told(2, 0), 9);
        Check.due("both unload", x.pass(1), 8);
        Check.due("up 1 of 1", x.told(2, 0), 10);
        x.send(2, 9);
        x.pass(1);
        Check.due("down 1 of 1", x.told(2, 0), 9);
    }

    private static void step2LedToItsOwnPlace() {
        CoveSignals x = new CoveSignals();
        x.setRoom(6, 30);
        x.lantern(6);
        x.setCode(1, 6);
        Scenes.showAlways(x, 0, 1);
        x.boat(6, 3);
        Check.due("it does not unload in the hour in which it is led", x.pass(1), 0);
        Check.due("at its goal", x.told(0, 3), 2);
        Check.due("then it does", x.pass(1), 3);
    }

    private static void step3Walking() {
        CoveSignals x = new CoveSignals();
        x.watchman(3, 5, 0);
        x.watchman(8, 8, 0);
        x.watchman(0, 1, 0);
        int[] places = {4, 5, 4, 3, 4, 5, 4};
        int[] ways = {1, 1, -1, -1, 1, 1, -1};
        int[] others = {1, 0, 1, 0, 1, 0, 1};
        for (int i = 0; i < places.length; i++) {
            x.pass(1);
            Check.due("place in hour " + i, x.about(0, 0), places[i]);
            Check.due("way in hour " + i, x.about(0, 1), ways[i]);
            Check.due("a single place", x.about(1, 0), 8);
            Check.due("does not turn", x.about(1, 1), 1);
            Check.due("two places", x.about(2, 0), others[i]);
            Check.due("two places, way", x.about(2, 1), others[i] == 1 ? 1 : -1);
        }
    }

    private static void step3HowFarHeSeizes() {
        for (int night = 0; night < 13; night++) {
            for (int eyes = 0; eyes <= 3; eyes++) {
                CoveSignals x = atNight(night);
                int sight = eyes + x.moon(night) / 2;
                x.watchman(0, 0, eyes);
                x.boat(sight + 1, 5);
                x.send(0, sight + 1);
                x.boat(sight + 2, 6);
                x.send(1, sight);
                x.boat(0, 7);
                x.pass(1);
                Check.due("night " + night + " too far", x.told(0, 3), 2);
                Check.due("night " + night + " just come", x.told(1, 3), 4);
                Check.due("night " + night + " place of the seized", x.told(1, 0), sight);
                Check.due("night " + night + " not at a goal", x.told(2, 3), 0);
                Check.due("night " + night + " seized bales", x.count(8), 6);
                Check.due("night " + night + " seized boats", x.about(0, 4), 1);
            }
        }
    }

    /** Code 1 was seen as often as it is told to; a boat was led by it to place 8, and a watchman stands farther on. */
    private static CoveSignals ledTo8(int timesSeen, int watchmanAt) {
        CoveSignals x = new CoveSignals();
        x.lantern(8);
        x.setCode(1, 8);
        x.watchman(0, 0, 0);
        x.lantern(0);
        for (int hour = 0; hour < timesSeen; hour++) {
            x.setShow(1, hour, 1);
        }
        x.pass(6);
        x.boat(9, 5);
        x.setShow(0, 6, 1);
        x.pass(1);
        x.watchman(watchmanAt, watchmanAt, 0);
        return x;
    }

    private static void step3KnownCode() {
        CoveSignals x = ledTo8(3, 14);
        x.pass(1);
        Check.due("known, 6 far", x.told(0, 3), 4);
        Check.due("led by it still", x.told(0, 5), 1);
        Check.due("minds still", x.told(0, 6), 1);
        Check.due("keeps its goal", x.told(0, 2), 8);
        Check.due("has none", x.told(0, 1), 0);
        Check.due("seized by the second", x.about(1, 4), 1);
        Check.due("not by the first", x.about(0, 4), 0);
        x = ledTo8(3, 15);
        x.pass(1);
        Check.due("known, 7 far", x.told(0, 3), 2);
        x = ledTo8(2, 14);
        x.pass(1);
        Check.due("not known, 6 far", x.told(0, 3), 2);
        x = ledTo8(2, 11);
        x.pass(1);
        Check.due("not known, 3 far", x.told(0, 3), 4);
        x = ledTo8(3, 14);
        x.setCode(1, 8);
        x.pass(1);
        Check.due("told anew, 6 far", x.told(0, 3), 2);
        x = ledTo8(3, 14);
        x.send(0, 8);
        x.pass(1);
        Check.due("sent, so led by none, 6 far", x.told(0, 3), 2);
    }

    private static void step3KnownInTheSameHour() {
        CoveSignals x = ledTo8(2, 14);
        x.setShow(1, 7, 1);
        x.pass(1);
        Check.due("seen for the third time", x.code(1, 1), 3);
        Check.due("known by then", x.told(0, 3), 4);
    }

    private static void step3OneBoatEach() {
        CoveSignals x = new CoveSignals();
        x.watchman(5, 5, 0);
        x.watchman(6, 6, 0);
        for (int boat = 0; boat < 4; boat++) {
            x.boat(5, boat + 1);
        }
        x.send(3, 5);
        x.send(2, 5);
        x.send(1, 5);
        x.pass(1);
        Check.due("no goal", x.told(0, 3), 0);
        Check.due("first", x.told(1, 3), 4);
        Check.due("second", x.told(2, 3), 4);
        Check.due("third stays", x.told(3, 3), 2);
        Check.due("bales", x.count(8), 5);
        Check.due("one each", x.about(0, 4), 1);
        Check.due("one each", x.about(1, 4), 1);
        x.setRoom(5, 30);
        Check.due("the third unloads ahead of the watchmen, and is gone", x.pass(1), 4);
        Check.due("gone", x.told(3, 3), 3);
        x.pass(5);
        Check.due("bales seized stay", x.count(8), 5);
        Check.due("a boat that is seized unloads nothing", x.count(7), 4);
    }

    private static void step3WalksAheadOfSeizing() {
        CoveSignals x = new CoveSignals();
        x.watchman(5, 7, 0);
        x.boat(9, 5);
        x.boat(2, 5);
        x.send(0, 9);
        x.send(1, 2);
        x.pass(1);
        Check.due("seen from 6", x.told(0, 3), 4);
        Check.due("not seen from 5", x.told(1, 3), 2);
        x.pass(1);
        Check.due("he does not see 2 from 7", x.told(1, 3), 2);
        x.pass(2);
        Check.due("sees 2 from 5", x.told(1, 3), 4);
    }

    private static void promise22Mean() {
        CoveSignals x = new CoveSignals();
        Check.dueReal("mean without boats", x.mean(), 0.0);
        x.boat(3, 20);
        Check.dueReal("mean of 20", x.mean(), 20.0);
        x.boat(4, 5);
        Check.dueReal("mean of 20, 5", x.mean(), 12.5);
        x.boat(5, 3);
        Check.dueReal("mean of 20, 5, 3", x.mean(), 28.0 / 3.0);
        x.setRoom(4, 30);
        x.send(1, 4);
        x.pass(1);
        Check.dueReal("mean of 20, 1, 3", x.mean(), 8.0);
        x.pass(1);
        Check.dueReal("mean without the one that is gone", x.mean(), 11.5);
        x.watchman(5, 5, 0);
        x.send(2, 5);
        x.pass(1);
        Check.dueReal("mean without the one that was seized", x.mean(), 20.0);
        x.send(0, 3);
        x.pass(1);
        Check.dueReal("mean without any at sea", x.mean(), 0.0);
    }
}
