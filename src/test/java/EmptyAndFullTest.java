/** Nothing there yet, and no more room: lanterns, watchmen, boats and caves. */
public final class EmptyAndFullTest {
    public static void main(String[] args) {
        aNewObjectHasNothing();
        aNewObjectLetsHoursGoBy();
        aNewObjectLooksAhead();
        digestOfANewObject();
        withoutWatchmenNothingIsSeenOrSeized();
        withoutLanternsBoatsStay();
        withoutBoatsThereAreNone();
        lanternsThatShowNothing();
        atMost5LanternsAndTheFifthShines();
        noTwoLanternsAtOnePlace();
        atMost4WatchmenAndTheFourthSeizes();
        atMost6BoatsComeInAll();
        sixBoatsAtOnePlace();
        aCaveWithoutRoom();
        aCaveThatIsFilledExactly();
        aFullCaveGetsRoomByCarry();
        aFullCaveGetsRoomBySetRoom();
        allCavesFull();
        meanWithoutAnyAtSea();
        aFullCoastLooksAhead();
        all7CodesKnown();
        Check.end("EmptyAndFullTest");
    }

    private static void aNewObjectHasNothing() {
        CoveSignals x = new CoveSignals();
        Check.dueAll("count", Scenes.count(x), 0, 0, 0, 0, 0, 0, 0, 0, 0, 0, 0);
        for (int place = 0; place < 16; place++) {
            for (int what = 0; what <= 4; what++) {
                Check.due("place(" + place + ", " + what + ")", x.place(place, what), 0);
            }
        }
        for (int code = 1; code <= 7; code++) {
            Check.due("code " + code + " names none", x.code(code, 0), -1);
            Check.due("code " + code + " was not seen", x.code(code, 1), 0);
            Check.due("code " + code + " is not known", x.code(code, 2), 0);
            Check.due("code " + code + " led none", x.code(code, 3), 0);
        }
        Check.outOfBounds(x, "told(0, 0)", () -> x.told(0, 0));
        Check.outOfBounds(x, "about(0, 0)", () -> x.about(0, 0));
        Check.outOfBounds(x, "light(0, 0)", () -> x.light(0, 0));
        Check.outOfBounds(x, "setShow(0, 0, 0)", () -> x.setShow(0, 0, 0));
        Check.outOfBounds(x, "send(0, 0)", () -> x.send(0, 0));
        Check.outOfBounds(x, "send(0, -1)", () -> x.send(0, -1));
        Check.illegalState(x, "carry(0, 1)", () -> x.carry(0, 1));
        Check.dueReal("mean", x.mean(), 0.0);
    }

    private static void aNewObjectLetsHoursGoBy() {
        CoveSignals x = new CoveSignals();
        Check.due("pass(60)", x.pass(60), 0);
        Check.dueAll("count", Scenes.count(x), 60, 0, 0, 0, 0, 0, 0, 0, 0, 0, 0);
    }

    private static void aNewObjectLooksAhead() {
        CoveSignals x = new CoveSignals();
        for (int what = 4; what <= 10; what++) {
            Check.due("foresee(1, " + what + ")", x.foresee(1, what), 0);
            Check.due("foresee(60, " + what + ")", x.foresee(60, what), 0);
        }
        for (int place = 0; place < 16; place++) {
            Check.due("quiet(" + place + ")", x.quiet(place), 0);
        }
        Check.outOfBounds(x, "until(0)", () -> x.until(0));
        Check.outOfBounds(x, "advise(0)", () -> x.advise(0));
    }

    /** Of all numbers only the 7 places of the codes are not 0. */
    private static void digestOfANewObject() {
        long d = 1669;
        for (int i = 0; i < 11 + 16 * 5; i++) {
            d *= 31;
        }
        for (int code = 1; code <= 7; code++) {
            d = (d * 31 - 1) * 31 * 31 * 31;
        }
        Check.due("digest", new CoveSignals().digest(), d);
    }

    private static void withoutWatchmenNothingIsSeenOrSeized() {
        CoveSignals x = new CoveSignals();
        x.setCode(1, 4);
        x.lantern(4);
        Scenes.showAlways(x, 0, 1);
        x.boat(4, 5);
        x.pass(20);
        Check.due("the code was not seen", x.code(1, 1), 0);
        Check.dueAll("light", Scenes.light(x, 0), 4, 1, 0, 0);
        Check.due("the boat lies at its goal", x.told(0, 3), 2);
        Check.due("nothing is seized", x.count(6) + x.count(8), 0);
        Check.due("nobody sees the place", x.place(4, 4), 0);
    }

    private static void withoutLanternsBoatsStay() {
        CoveSignals x = new CoveSignals();
        x.setCode(1, 4);
        x.watchman(0, 15, 3);
        x.boat(7, 5);
        x.pass(60);
        x.pass(60);
        Check.dueAll("told", Scenes.told(x, 0), 7, 5, -1, 0, 0, 0, 1);
        Check.due("nothing is seized", x.about(0, 4), 0);
    }

    private static void withoutBoatsThereAreNone() {
        CoveSignals x = new CoveSignals();
        x.setRoom(4, 30);
        x.setCode(1, 4);
        x.lantern(4);
        Scenes.showAlways(x, 0, 1);
        x.watchman(4, 4, 3);
        Check.due("pass(60)", x.pass(60), 0);
        Check.dueAll("count", Scenes.count(x), 60, 1, 1, 0, 0, 0, 0, 0, 0, 0, 1);
        Check.due("code(1, 1)", x.code(1, 1), 60);
    }

    private static void lanternsThatShowNothing() {
        CoveSignals x = new CoveSignals();
        x.setCode(1, 9);
        x.lantern(4);
        x.watchman(4, 4, 0);
        x.boat(4, 5);
        x.pass(10);
        Check.dueAll("light: he would see it", Scenes.light(x, 0), 4, 0, 1, 0);
        Check.dueAll("told", Scenes.told(x, 0), 4, 5, -1, 0, 0, 0, 1);
        Check.due("no code was seen", x.code(1, 1), 0);
    }

    private static void atMost5LanternsAndTheFifthShines() {
        CoveSignals x = new CoveSignals();
        for (int i = 0; i < 4; i++) {
            Check.due("lantern " + i, x.lantern(i), i);
        }
        Check.due("the fifth", x.lantern(12), 4);
        Check.illegalState(x, "the sixth", () -> x.lantern(13));
        x.setCode(6, 15);
        x.setShow(4, 0, 6);
        x.watchman(12, 12, 0);
        x.boat(12, 5);
        x.pass(1);
        Check.due("it is seen", x.light(4, 3), 1);
        Check.due("its code was seen", x.code(6, 1), 1);
        Check.due("it leads", x.told(0, 5), 6);
        Check.due("count(1)", x.count(1), 5);
    }

    private static void noTwoLanternsAtOnePlace() {
        CoveSignals x = new CoveSignals();
        x.lantern(0);
        x.lantern(15);
        x.lantern(7);
        Check.illegalState(x, "at the first one's", () -> x.lantern(0));
        Check.illegalState(x, "at the second one's", () -> x.lantern(15));
        Check.illegalState(x, "at the last one's", () -> x.lantern(7));
        Check.due("next to it", x.lantern(8), 3);
        Check.due("next to it", x.lantern(6), 4);
    }

    private static void atMost4WatchmenAndTheFourthSeizes() {
        CoveSignals x = new CoveSignals();
        for (int i = 0; i < 3; i++) {
            Check.due("watchman " + i, x.watchman(0, 0, 0), i);
        }
        Check.due("the fourth", x.watchman(15, 15, 0), 3);
        Check.illegalState(x, "the fifth", () -> x.watchman(7, 7, 0));
        x.lantern(15);
        x.setShow(0, 0, 2);
        Scenes.boatAtGoal(x, 15, 9);
        x.pass(1);
        Check.due("he seizes", x.about(3, 4), 1);
        Check.due("he sees the lantern", x.code(2, 1), 1);
        Check.due("three at one place", x.place(0, 2), 3);
        Check.due("none at the place beside it, though they see it", x.place(1, 2), 0);
        Check.due("three who see it", x.place(3, 4), 3);
        Check.due("count(2)", x.count(2), 4);
    }

    private static void atMost6BoatsComeInAll() {
        CoveSignals x = new CoveSignals();
        x.setRoom(2, 30);
        x.watchman(12, 12, 0);
        Scenes.boatAtGoal(x, 2, 4);
        Scenes.boatAtGoal(x, 12, 4);
        x.pass(1);
        Check.due("one is gone", x.count(5), 1);
        Check.due("one was seized", x.count(6), 1);
        for (int number = 2; number < 6; number++) {
            Check.due("boat " + number, x.boat(3, 3), number);
        }
        Check.illegalState(x, "the seventh that comes, with 4 at sea", () -> x.boat(3, 3));
        Check.due("at sea", x.count(4), 4);
        Check.due("came", x.count(3), 6);
        x.send(5, 2);
        x.pass(2);
        Check.due("the sixth is gone too", x.told(5, 3), 3);
        Check.illegalState(x, "the seventh still", () -> x.boat(3, 3));
    }

    private static void sixBoatsAtOnePlace() {
        CoveSignals x = new CoveSignals();
        x.setRoom(9, 22);
        for (int i = 0; i < 6; i++) {
            Scenes.boatAtGoal(x, 9, 4);
        }
        Check.due("boats at 9", x.place(9, 3), 6);
        Check.due("five of four, and two of the sixth", x.pass(1), 22);
        Check.due("gone", x.count(5), 5);
        Check.due("the sixth has 2", x.told(5, 1), 2);
        Check.due("boats at sea at 9", x.place(9, 3), 1);
    }

    private static void aCaveWithoutRoom() {
        CoveSignals x = new CoveSignals();
        Scenes.boatAtGoal(x, 9, 4);
        Check.due("nothing is unloaded", x.pass(60), 0);
        Check.dueAll("told", Scenes.told(x, 0), 9, 4, 9, 2, 0, 0, 0);
        Check.due("until", x.until(0), -1);
        Check.due("in the cave", x.place(9, 1), 0);
        x.setRoom(9, 1);
        Check.due("one now", x.pass(60), 1);
        Check.due("until", x.until(0), -1);
    }

    private static void aCaveThatIsFilledExactly() {
        CoveSignals x = new CoveSignals();
        x.setRoom(9, 6);
        Scenes.boatAtGoal(x, 9, 6);
        Check.due("4", x.pass(1), 4);
        Check.due("2", x.pass(1), 2);
        Check.due("the last fills it, and it is gone", x.told(0, 3), 3);
        Check.due("full", x.place(9, 1), 6);
        Scenes.boatAtGoal(x, 9, 1);
        Check.due("no room for one", x.pass(1), 0);
        Check.due("it lies there", x.told(1, 3), 2);
    }

    private static void aFullCaveGetsRoomByCarry() {
        CoveSignals x = new CoveSignals();
        x.setRoom(9, 3);
        Scenes.boatAtGoal(x, 9, 7);
        Check.due("3 of 4", x.pass(5), 3);
        x.carry(9, 1);
        Check.due("1", x.pass(5), 1);
        x.carry(9, 3);
        Check.due("3", x.pass(1), 3);
        Check.due("gone", x.told(0, 3), 3);
        Check.due("unloaded in all", x.told(0, 4), 7);
    }

    private static void aFullCaveGetsRoomBySetRoom() {
        CoveSignals x = new CoveSignals();
        x.setRoom(9, 3);
        Scenes.boatAtGoal(x, 9, 20);
        x.pass(5);
        x.setRoom(9, 8);
        Check.due("4 in the first hour", x.pass(1), 4);
        Check.due("1 in the next", x.pass(1), 1);
        Check.due("none behind it", x.pass(1), 0);
        x.setRoom(9, 30);
        Check.due("12 of 22", x.pass(60), 12);
        Check.due("gone", x.told(0, 3), 3);
    }

    private static void allCavesFull() {
        CoveSignals x = new CoveSignals();
        for (int i = 0; i < 5; i++) {
            x.setRoom(i, 20);
            Scenes.boatAtGoal(x, i, 20);
        }
        x.pass(5);
        Check.due("bales in all caves", x.count(7), 100);
        x.boat(7, 20);
        Check.due("nowhere any room: the smallest number", x.advise(5), 0);
        x.carry(4, 1);
        Check.due("room for one", x.advise(5), 4);
    }

    private static void meanWithoutAnyAtSea() {
        CoveSignals x = new CoveSignals();
        Check.dueReal("without boats", x.mean(), 0.0);
        x.setRoom(2, 4);
        x.watchman(12, 12, 0);
        Scenes.boatAtGoal(x, 2, 4);
        Scenes.boatAtGoal(x, 12, 4);
        Check.dueReal("two at sea", x.mean(), 4.0);
        x.pass(1);
        Check.dueReal("one gone, one seized", x.mean(), 0.0);
        x.boat(5, 1);
        Check.dueReal("one at sea with one", x.mean(), 1.0);
        x.boat(5, 2);
        Check.dueReal("one and two", x.mean(), 1.5);
    }

    /** 5 lanterns, 4 watchmen and 6 boats; code 7, of the last lantern, was seen twice and leads the last boat to 13. */
    private static CoveSignals fullCoast() {
        CoveSignals x = new CoveSignals();
        x.setRoom(13, 30);
        x.setCode(7, 13);
        for (int place = 0; place < 4; place++) {
            x.lantern(place);
        }
        x.lantern(14);
        Scenes.showAlways(x, 4, 7);
        x.watchman(14, 14, 0);
        for (int i = 0; i < 2; i++) {
            x.watchman(0, 0, 0);
        }
        x.pass(2);
        x.setShow(4, 3, 0);
        x.watchman(5, 5, 3);
        for (int i = 0; i < 5; i++) {
            x.boat(8, 4);
        }
        x.boat(13, 9);
        return x;
    }

    private static void aFullCoastLooksAhead() {
        CoveSignals x = fullCoast();
        Check.dueReal("mean of six", x.mean(), 29.0 / 6.0);
        Check.due("code 7 becomes known", x.foresee(1, 10), 1);
        Check.due("and the last boat is seized", x.foresee(1, 6), 1);
        Check.due("by the first of those who see it", x.foresee(1, 8), 9);
        Check.due("so it is never gone", x.until(5), -1);
        Check.due("the last watchman sees 6 far in the hour 9, 5 far in the hour 10", x.quiet(11), 8);
        Check.due("5 far in the hour 29, 4 far in the hour 30", x.quiet(10), 28);
        Check.due("4 far in the hour 42 still", x.quiet(9), -1);
        Check.due("sent to where it is it unloads 4 ahead of being seized", x.advise(5), 13);
        x.pass(1);
        Check.due("code 7 is known", x.code(7, 2), 1);
        Check.due("boats at sea led by it", x.code(7, 3), 0);
    }

    private static void all7CodesKnown() {
        CoveSignals x = new CoveSignals();
        x.lantern(5);
        x.watchman(5, 5, 0);
        for (int code = 1; code <= 7; code++) {
            Scenes.showAlways(x, 0, code);
            x.pass(3);
            Check.due("known codes", x.count(10), code);
            Check.due("foreseen", x.foresee(1, 10), code);
        }
        for (int code = 7; code >= 1; code--) {
            x.setCode(code, 9);
            Check.due("known codes", x.count(10), code - 1);
        }
    }
}
