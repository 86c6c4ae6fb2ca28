/**
 * "A method that throws an exception changes nothing. If several exceptions apply, the one that is named first is
 * thrown."
 */
public final class RefusedCallsTest {
    public static void main(String[] args) {
        setRoomFirstThePlace();
        setRoomThenTheRoom();
        lanternFirstThePlace();
        setShowFirstLanternAndHour();
        watchmanFirstFromAndTo();
        watchmanThenBeatAndEyes();
        boatFirstThePlace();
        boatThenTheBales();
        sendFirstThePlace();
        carryFirstThePlace();
        carryThenHowMany();
        foreseeFirstTheHours();
        refusedCallsChangeNothingOfWhatComes();
        refusedCallsChangeNothingOfWhatComesWhenAllIsFull();
        looksAheadChangeNothing();
        Check.end("RefusedCallsTest");
    }

    private static void setRoomFirstThePlace() {
        CoveSignals x = new CoveSignals();
        Check.outOfBounds(x, "setRoom(16, 31)", () -> x.setRoom(16, 31));
        Check.outOfBounds(x, "setRoom(-1, -1)", () -> x.setRoom(-1, -1));
    }

    private static void setRoomThenTheRoom() {
        CoveSignals x = new CoveSignals();
        x.setRoom(4, 30);
        Scenes.boatAtGoal(x, 4, 20);
        Scenes.boatAtGoal(x, 4, 20);
        x.pass(10);
        Check.illegalArgument(x, "setRoom(4, -1), less than there is", () -> x.setRoom(4, -1));
        Check.illegalState(x, "setRoom(4, 29), less than there is", () -> x.setRoom(4, 29));
        Check.illegalArgument(x, "setRoom(4, 31)", () -> x.setRoom(4, 31));
    }

    private static void lanternFirstThePlace() {
        CoveSignals x = new CoveSignals();
        for (int place = 0; place < 5; place++) {
            x.lantern(place);
        }
        Check.outOfBounds(x, "a sixth lantern at -1", () -> x.lantern(-1));
        Check.outOfBounds(x, "a sixth lantern at 16", () -> x.lantern(16));
        Check.illegalState(x, "a sixth lantern at 15", () -> x.lantern(15));
        Check.illegalState(x, "a sixth lantern where one stands", () -> x.lantern(0));
    }

    private static void setShowFirstLanternAndHour() {
        CoveSignals x = new CoveSignals();
        Check.outOfBounds(x, "setShow(0, 0, 8) without lanterns", () -> x.setShow(0, 0, 8));
        x.lantern(3);
        Check.outOfBounds(x, "setShow(1, 0, -1)", () -> x.setShow(1, 0, -1));
        Check.outOfBounds(x, "setShow(0, 10, 8)", () -> x.setShow(0, 10, 8));
        Check.outOfBounds(x, "setShow(0, -1, -1)", () -> x.setShow(0, -1, -1));
        Check.outOfBounds(x, "setShow(-1, 10, 3)", () -> x.setShow(-1, 10, 3));
    }

    private static void watchmanFirstFromAndTo() {
        CoveSignals x = new CoveSignals();
        for (int round = 0; round < 2; round++) {
            String when = round == 0 ? "" : ", when there are 4";
            Check.outOfBounds(x, "watchman(16, 3, 1)" + when, () -> x.watchman(16, 3, 1));
            Check.outOfBounds(x, "watchman(3, -1, 1)" + when, () -> x.watchman(3, -1, 1));
            Check.outOfBounds(x, "watchman(-1, 3, 4)" + when, () -> x.watchman(-1, 3, 4));
            Check.outOfBounds(x, "watchman(3, 16, -1)" + when, () -> x.watchman(3, 16, -1));
            for (int i = 0; i < 4 && round == 0; i++) {
                x.watchman(3, 3, 1);
            }
        }
    }

    private static void watchmanThenBeatAndEyes() {
        CoveSignals x = new CoveSignals();
        for (int i = 0; i < 4; i++) {
            x.watchman(3, 3, 1);
        }
        Check.illegalArgument(x, "a fifth, from 4 to 3", () -> x.watchman(4, 3, 1));
        Check.illegalArgument(x, "a fifth, eyes 4", () -> x.watchman(3, 4, 4));
        Check.illegalArgument(x, "a fifth, eyes -1", () -> x.watchman(3, 4, -1));
        Check.illegalState(x, "a fifth", () -> x.watchman(3, 4, 1));
    }

    private static void boatFirstThePlace() {
        CoveSignals x = new CoveSignals();
        Check.outOfBounds(x, "boat(16, 21)", () -> x.boat(16, 21));
        Check.outOfBounds(x, "boat(-1, 0)", () -> x.boat(-1, 0));
        for (int i = 0; i < 6; i++) {
            x.boat(3, 1);
        }
        Check.outOfBounds(x, "a seventh at 16", () -> x.boat(16, 5));
        Check.outOfBounds(x, "a seventh at -1 with 0", () -> x.boat(-1, 0));
    }

    private static void boatThenTheBales() {
        CoveSignals x = new CoveSignals();
        for (int i = 0; i < 6; i++) {
            x.boat(3, 1);
        }
        Check.illegalArgument(x, "a seventh with 0", () -> x.boat(3, 0));
        Check.illegalArgument(x, "a seventh with 21", () -> x.boat(3, 21));
        Check.illegalState(x, "a seventh with 20", () -> x.boat(3, 20));
    }

    private static void sendFirstThePlace() {
        CoveSignals x = goneAndSeized();
        for (int boat = 0; boat < 2; boat++) {
            int number = boat;
            Check.outOfBounds(x, "send(" + boat + ", 16), not at sea", () -> x.send(number, 16));
            Check.outOfBounds(x, "send(" + boat + ", -2), not at sea", () -> x.send(number, -2));
            Check.illegalState(x, "send(" + boat + ", 15), not at sea", () -> x.send(number, 15));
            Check.illegalState(x, "send(" + boat + ", -1), not at sea", () -> x.send(number, -1));
        }
    }

    /** Boat 0 is gone, boat 1 was seized. */
    private static CoveSignals goneAndSeized() {
        CoveSignals x = new CoveSignals();
        x.setRoom(2, 4);
        Scenes.boatAtGoal(x, 2, 4);
        Scenes.boatAtGoal(x, 12, 4);
        x.watchman(12, 12, 0);
        x.pass(1);
        return x;
    }

    private static void carryFirstThePlace() {
        CoveSignals x = new CoveSignals();
        Check.outOfBounds(x, "carry(16, 0)", () -> x.carry(16, 0));
        Check.outOfBounds(x, "carry(-1, 31)", () -> x.carry(-1, 31));
    }

    private static void carryThenHowMany() {
        CoveSignals x = new CoveSignals();
        Check.illegalArgument(x, "carry(3, 31) of none", () -> x.carry(3, 31));
        Check.illegalState(x, "carry(3, 30) of none", () -> x.carry(3, 30));
        Check.illegalArgument(x, "carry(3, 0) of none", () -> x.carry(3, 0));
        Check.illegalState(x, "carry(3, 1) of none", () -> x.carry(3, 1));
    }

    private static void foreseeFirstTheHours() {
        CoveSignals x = new CoveSignals();
        Check.illegalArgument(x, "foresee(0, 3)", () -> x.foresee(0, 3));
        Check.illegalArgument(x, "foresee(61, 11)", () -> x.foresee(61, 11));
        Check.outOfBounds(x, "foresee(1, 3)", () -> x.foresee(1, 3));
        Check.outOfBounds(x, "foresee(60, 11)", () -> x.foresee(60, 11));
    }

    private static CoveSignals busyCoast() {
        CoveSignals x = new CoveSignals();
        x.setRoom(4, 9);
        x.setRoom(11, 30);
        x.setCode(2, 4);
        x.setCode(3, 11);
        x.lantern(6);
        x.lantern(9);
        for (int hour = 0; hour < 10; hour++) {
            x.setShow(0, hour, hour % 3 == 0 ? 2 : 0);
            x.setShow(1, hour, hour % 4 == 0 ? 3 : 0);
        }
        x.watchman(0, 3, 1);
        x.watchman(12, 15, 0);
        x.boat(7, 13);
        x.boat(8, 20);
        return x;
    }

    private static void refusedCallsChangeNothingOfWhatComes() {
        CoveSignals x = busyCoast();
        CoveSignals y = busyCoast();
        for (int hour = 0; hour < 80; hour++) {
            refuseAll(x);
            Check.due("pass, hour " + hour, x.pass(1), y.pass(1));
            Check.due("digest, hour " + hour, x.digest(), y.digest());
            if (hour % 40 == 10) {
                Check.due("the next lantern", x.lantern(hour / 20), y.lantern(hour / 20));
                Check.due("the next boat", x.boat(10, 9), y.boat(10, 9));
            }
            if (hour % 40 == 15) {
                Check.due("the next watchman", x.watchman(5, 9, 0), y.watchman(5, 9, 0));
            }
            if (hour % 9 == 5) {
                Check.due("carry, hour " + hour, carryOne(x), carryOne(y));
            }
        }
    }

    private static void refusedCallsChangeNothingOfWhatComesWhenAllIsFull() {
        CoveSignals x = full();
        CoveSignals y = full();
        for (int hour = 0; hour < 40; hour++) {
            refuseAll(x);
            Check.illegalState(x, "a sixth lantern", () -> x.lantern(8));
            Check.illegalState(x, "a fifth watchman", () -> x.watchman(3, 5, 1));
            Check.illegalState(x, "a seventh boat", () -> x.boat(3, 5));
            Check.due("pass, hour " + hour, x.pass(1), y.pass(1));
            Check.due("digest, hour " + hour, x.digest(), y.digest());
        }
    }

    private static CoveSignals full() {
        CoveSignals x = busyCoast();
        x.lantern(0);
        x.lantern(1);
        x.lantern(2);
        x.watchman(5, 9, 0);
        x.watchman(6, 6, 0);
        for (int i = 0; i < 4; i++) {
            x.boat(4 + 2 * i, 20);
        }
        return x;
    }

    private static int carryOne(CoveSignals x) {
        return x.place(11, 1) > 0 ? x.carry(11, 1) : -1;
    }

    /** One call of each kind that is refused in any state. */
    private static void refuseAll(CoveSignals x) {
        Check.outOfBounds(x, "setRoom", () -> x.setRoom(16, 3));
        Check.illegalArgument(x, "setRoom", () -> x.setRoom(4, 31));
        Check.outOfBounds(x, "setCode", () -> x.setCode(2, 16));
        Check.outOfBounds(x, "setCode", () -> x.setCode(8, 4));
        Check.outOfBounds(x, "lantern", () -> x.lantern(16));
        Check.illegalState(x, "lantern", () -> x.lantern(6));
        Check.outOfBounds(x, "setShow", () -> x.setShow(0, 10, 5));
        Check.illegalArgument(x, "setShow", () -> x.setShow(0, 1, 8));
        Check.outOfBounds(x, "watchman", () -> x.watchman(3, 16, 2));
        Check.illegalArgument(x, "watchman", () -> x.watchman(3, 5, 4));
        Check.outOfBounds(x, "boat", () -> x.boat(16, 5));
        Check.illegalArgument(x, "boat", () -> x.boat(3, 21));
        Check.outOfBounds(x, "send", () -> x.send(0, 16));
        Check.outOfBounds(x, "send", () -> x.send(6, 3));
        Check.illegalArgument(x, "carry", () -> x.carry(11, 0));
        Check.illegalState(x, "carry", () -> x.carry(0, 1));
        Check.illegalArgument(x, "pass", () -> x.pass(61));
        Check.illegalArgument(x, "foresee", () -> x.foresee(61, 4));
        Check.outOfBounds(x, "foresee", () -> x.foresee(60, 3));
        Check.outOfBounds(x, "until", () -> x.until(6));
        Check.outOfBounds(x, "advise", () -> x.advise(6));
        Check.outOfBounds(x, "quiet", () -> x.quiet(16));
    }

    private static void looksAheadChangeNothing() {
        CoveSignals x = busyCoast();
        CoveSignals y = busyCoast();
        for (int hour = 0; hour < 80; hour++) {
            lookAhead(x);
            Check.due("pass, hour " + hour, x.pass(1), y.pass(1));
            Check.due("digest, hour " + hour, x.digest(), y.digest());
        }
    }

    private static void lookAhead(CoveSignals x) {
        for (int boat = 0; boat < 2; boat++) {
            x.until(boat);
            if (x.told(boat, 3) < 3) {
                x.advise(boat);
            }
        }
        for (int what = 4; what <= 10; what++) {
            x.foresee(60, what);
        }
        x.quiet(0);
        x.quiet(15);
        x.mean();
    }
}
