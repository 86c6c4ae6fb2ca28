/**
 * Each bound that a promise names for an argument: the least and the greatest that is taken, and the next one on
 * either side, which is refused with the exception of the document and changes nothing.
 */
public final class ArgumentBoundsTest {
    public static void main(String[] args) {
        setRoomPlace0To15();
        setRoomRoom0To30();
        setRoomNotLessThanTheBalesInTheCave();
        setCodeCode1To7();
        setCodePlaceMinus1To15();
        lanternPlace0To15();
        setShowLanternsThatThereAre();
        setShowHour0To9();
        setShowCode0To7();
        watchmanFromAndTo0To15();
        watchmanFromNotGreaterThanTo();
        watchmanEyes0To3();
        boatPlace0To15();
        boatBales1To20();
        sendBoatsThatThereAre();
        sendPlaceMinus1To15();
        carryPlace0To15();
        carryMany1To30();
        carryNotMoreThanThereAre();
        toldBounds();
        aboutBounds();
        lightBounds();
        codeBounds();
        placeBounds();
        moonNight0To999();
        countWhat0To10();
        passHours1To60();
        untilBoatsThatThereAre();
        foreseeHours1To60();
        foreseeWhat4To10();
        adviseBoatsThatThereAre();
        quietPlace0To15();
        Check.end("ArgumentBoundsTest");
    }

    /** Two lanterns, watchmen and boats, and bales in the caves 0 and 15. */
    private static CoveSignals coast() {
        CoveSignals x = new CoveSignals();
        x.lantern(6);
        x.lantern(7);
        x.watchman(8, 8, 0);
        x.watchman(8, 9, 0);
        x.setRoom(0, 30);
        x.setRoom(15, 30);
        Scenes.boatAtGoal(x, 0, 4);
        Scenes.boatAtGoal(x, 15, 9);
        x.pass(1);
        x.boat(3, 5);
        return x;
    }

    private static void setRoomPlace0To15() {
        CoveSignals x = new CoveSignals();
        Check.due("setRoom(0, 5)", x.setRoom(0, 5), 0);
        Check.due("setRoom(15, 6)", x.setRoom(15, 6), 0);
        Check.due("place(0, 0)", x.place(0, 0), 5);
        Check.due("place(15, 0)", x.place(15, 0), 6);
        Check.outOfBoundsOutside(x, "setRoom(.., 5)", 0, 15, place -> x.setRoom(place, 5));
    }

    private static void setRoomRoom0To30() {
        CoveSignals x = new CoveSignals();
        Check.due("setRoom(4, 30)", x.setRoom(4, 30), 0);
        Check.due("place(4, 0) is 30", x.place(4, 0), 30);
        Check.due("setRoom(4, 0)", x.setRoom(4, 0), 30);
        Check.due("place(4, 0) is 0", x.place(4, 0), 0);
        Check.illegalArgumentOutside(x, "setRoom(4, ..)", 0, 30, room -> x.setRoom(4, room));
    }

    private static void setRoomNotLessThanTheBalesInTheCave() {
        CoveSignals x = coast();
        Check.due("4 bales in the cave", x.place(0, 1), 4);
        Check.illegalState(x, "setRoom(0, 3)", () -> x.setRoom(0, 3));
        Check.illegalState(x, "setRoom(0, 0)", () -> x.setRoom(0, 0));
        Check.due("setRoom(0, 4)", x.setRoom(0, 4), 30);
        Check.due("an empty cave: setRoom(1, 0)", x.setRoom(1, 0), 0);
        x.carry(0, 1);
        Check.due("setRoom(0, 3) with 3 in it", x.setRoom(0, 3), 4);
    }

    private static void setCodeCode1To7() {
        CoveSignals x = new CoveSignals();
        Check.due("setCode(1, 3)", x.setCode(1, 3), -1);
        Check.due("setCode(7, 4)", x.setCode(7, 4), -1);
        Check.due("code(1, 0)", x.code(1, 0), 3);
        Check.due("code(7, 0)", x.code(7, 0), 4);
        Check.outOfBoundsOutside(x, "setCode(.., 3)", 1, 7, code -> x.setCode(code, 3));
        Check.outOfBoundsOutside(x, "setCode(.., -1)", 1, 7, code -> x.setCode(code, -1));
    }

    private static void setCodePlaceMinus1To15() {
        CoveSignals x = new CoveSignals();
        Check.due("setCode(2, -1)", x.setCode(2, -1), -1);
        Check.due("setCode(2, 0)", x.setCode(2, 0), -1);
        Check.due("setCode(2, 15)", x.setCode(2, 15), 0);
        Check.due("setCode(2, -1) again", x.setCode(2, -1), 15);
        Check.due("it names none", x.code(2, 0), -1);
        Check.outOfBoundsOutside(x, "setCode(2, ..)", -1, 15, place -> x.setCode(2, place));
    }

    private static void lanternPlace0To15() {
        CoveSignals x = new CoveSignals();
        Check.due("lantern(15)", x.lantern(15), 0);
        Check.due("lantern(0)", x.lantern(0), 1);
        Check.due("light(0, 0)", x.light(0, 0), 15);
        Check.due("light(1, 0)", x.light(1, 0), 0);
        Check.outOfBoundsOutside(x, "lantern(..)", 0, 15, x::lantern);
    }

    private static void setShowLanternsThatThereAre() {
        CoveSignals x = coast();
        Check.due("setShow(0, 3, 4)", x.setShow(0, 3, 4), 0);
        Check.due("setShow(1, 3, 5)", x.setShow(1, 3, 5), 0);
        Check.outOfBoundsOutside(x, "setShow(.., 3, 4)", 0, 1, lantern -> x.setShow(lantern, 3, 4));
        x.lantern(8);
        Check.due("setShow(2, 3, 4) with three", x.setShow(2, 3, 4), 0);
    }

    private static void setShowHour0To9() {
        CoveSignals x = coast();
        Check.due("setShow(0, 0, 2)", x.setShow(0, 0, 2), 0);
        Check.due("setShow(0, 9, 3)", x.setShow(0, 9, 3), 0);
        Check.due("setShow(0, 0, 1)", x.setShow(0, 0, 1), 2);
        Check.due("setShow(0, 9, 1)", x.setShow(0, 9, 1), 3);
        Check.outOfBoundsOutside(x, "setShow(0, .., 4)", 0, 9, hour -> x.setShow(0, hour, 4));
    }

    private static void setShowCode0To7() {
        CoveSignals x = coast();
        Check.due("setShow(0, 5, 7)", x.setShow(0, 5, 7), 0);
        Check.due("setShow(0, 5, 1)", x.setShow(0, 5, 1), 7);
        Check.due("setShow(0, 5, 0)", x.setShow(0, 5, 0), 1);
        Check.due("setShow(0, 5, 0) again", x.setShow(0, 5, 0), 0);
        Check.illegalArgumentOutside(x, "setShow(0, 5, ..)", 0, 7, code -> x.setShow(0, 5, code));
    }

    private static void watchmanFromAndTo0To15() {
        CoveSignals x = new CoveSignals();
        Check.due("watchman(0, 15, 1)", x.watchman(0, 15, 1), 0);
        Check.due("watchman(15, 15, 1)", x.watchman(15, 15, 1), 1);
        Check.due("watchman(0, 0, 1)", x.watchman(0, 0, 1), 2);
        Check.outOfBoundsOutside(x, "watchman(.., 15, 1)", 0, 15, from -> x.watchman(from, 15, 1));
        Check.outOfBoundsOutside(x, "watchman(0, .., 1)", 0, 15, to -> x.watchman(0, to, 1));
    }

    private static void watchmanFromNotGreaterThanTo() {
        CoveSignals x = new CoveSignals();
        Check.due("watchman(7, 8, 1)", x.watchman(7, 8, 1), 0);
        Check.due("watchman(7, 7, 1)", x.watchman(7, 7, 1), 1);
        Check.illegalArgument(x, "watchman(7, 6, 1)", () -> x.watchman(7, 6, 1));
        Check.illegalArgument(x, "watchman(15, 0, 1)", () -> x.watchman(15, 0, 1));
        Check.illegalArgument(x, "watchman(1, 0, 1)", () -> x.watchman(1, 0, 1));
    }

    private static void watchmanEyes0To3() {
        CoveSignals x = new CoveSignals();
        Check.due("watchman(4, 5, 0)", x.watchman(4, 5, 0), 0);
        Check.due("watchman(4, 5, 3)", x.watchman(4, 5, 3), 1);
        Check.due("eyes 0 see by the moon alone", x.about(0, 2), 3);
        Check.due("eyes 3 see 3 farther", x.about(1, 2), 6);
        Check.illegalArgumentOutside(x, "watchman(4, 5, ..)", 0, 3, eyes -> x.watchman(4, 5, eyes));
    }

    private static void boatPlace0To15() {
        CoveSignals x = new CoveSignals();
        Check.due("boat(0, 5)", x.boat(0, 5), 0);
        Check.due("boat(15, 5)", x.boat(15, 5), 1);
        Check.due("told(0, 0)", x.told(0, 0), 0);
        Check.due("told(1, 0)", x.told(1, 0), 15);
        Check.outOfBoundsOutside(x, "boat(.., 5)", 0, 15, place -> x.boat(place, 5));
    }

    private static void boatBales1To20() {
        CoveSignals x = new CoveSignals();
        Check.due("boat(5, 1)", x.boat(5, 1), 0);
        Check.due("boat(5, 20)", x.boat(5, 20), 1);
        Check.due("told(0, 1)", x.told(0, 1), 1);
        Check.due("told(1, 1)", x.told(1, 1), 20);
        Check.illegalArgumentOutside(x, "boat(5, ..)", 1, 20, bales -> x.boat(5, bales));
    }

    private static void sendBoatsThatThereAre() {
        CoveSignals x = new CoveSignals();
        x.boat(4, 3);
        x.boat(5, 3);
        Check.due("send(0, 9)", x.send(0, 9), -1);
        Check.due("send(1, 8)", x.send(1, 8), -1);
        Check.outOfBoundsOutside(x, "send(.., 9)", 0, 1, boat -> x.send(boat, 9));
        x.boat(6, 3);
        Check.due("send(2, 9) with three", x.send(2, 9), -1);
    }

    private static void sendPlaceMinus1To15() {
        CoveSignals x = new CoveSignals();
        x.boat(4, 3);
        Check.due("send(0, 0)", x.send(0, 0), -1);
        Check.due("send(0, 15)", x.send(0, 15), 0);
        Check.due("send(0, -1)", x.send(0, -1), 15);
        Check.due("send(0, -1) again", x.send(0, -1), -1);
        Check.outOfBoundsOutside(x, "send(0, ..)", -1, 15, place -> x.send(0, place));
    }

    private static void carryPlace0To15() {
        CoveSignals x = coast();
        Check.due("carry(0, 1)", x.carry(0, 1), 3);
        Check.due("carry(15, 1)", x.carry(15, 1), 3);
        Check.outOfBoundsOutside(x, "carry(.., 1)", 0, 15, place -> x.carry(place, 1));
    }

    private static void carryMany1To30() {
        CoveSignals x = new CoveSignals();
        x.setRoom(4, 30);
        Scenes.boatAtGoal(x, 4, 20);
        Scenes.boatAtGoal(x, 4, 20);
        x.pass(10);
        Check.due("the cave is full of 30", x.place(4, 1), 30);
        Check.illegalArgumentOutside(x, "carry(4, ..)", 1, 30, many -> x.carry(4, many));
        Check.due("carry(4, 30)", x.carry(4, 30), 0);
        Check.due("carried off", x.count(9), 30);
        x.pass(1);
        Check.due("carry(4, 1)", x.carry(4, 1), 7);
        Check.due("carried off", x.count(9), 31);
    }

    private static void carryNotMoreThanThereAre() {
        CoveSignals x = coast();
        Check.illegalState(x, "carry(0, 5) of 4", () -> x.carry(0, 5));
        Check.illegalState(x, "carry(1, 1) of none", () -> x.carry(1, 1));
        Check.due("carry(0, 4) of 4", x.carry(0, 4), 0);
        Check.illegalState(x, "carry(0, 1) of none", () -> x.carry(0, 1));
    }

    private static void toldBounds() {
        CoveSignals x = coast();
        Check.due("told(0, 0)", x.told(0, 0), 0);
        Check.due("told(2, 0)", x.told(2, 0), 3);
        Check.due("told(2, 6)", x.told(2, 6), 1);
        Check.outOfBoundsOutside(x, "told(.., 0)", 0, 2, boat -> x.told(boat, 0));
        Check.outOfBoundsOutside(x, "told(2, ..)", 0, 6, what -> x.told(2, what));
    }

    private static void aboutBounds() {
        CoveSignals x = coast();
        Check.due("about(0, 0)", x.about(0, 0), 8);
        Check.due("about(1, 0)", x.about(1, 0), 9);
        Check.due("about(1, 4)", x.about(1, 4), 0);
        Check.outOfBoundsOutside(x, "about(.., 0)", 0, 1, watchman -> x.about(watchman, 0));
        Check.outOfBoundsOutside(x, "about(1, ..)", 0, 4, what -> x.about(1, what));
    }

    private static void lightBounds() {
        CoveSignals x = coast();
        Check.due("light(0, 0)", x.light(0, 0), 6);
        Check.due("light(1, 0)", x.light(1, 0), 7);
        Check.due("light(1, 3)", x.light(1, 3), 0);
        Check.outOfBoundsOutside(x, "light(.., 0)", 0, 1, lantern -> x.light(lantern, 0));
        Check.outOfBoundsOutside(x, "light(1, ..)", 0, 3, what -> x.light(1, what));
    }

    private static void codeBounds() {
        CoveSignals x = coast();
        Check.due("code(1, 0)", x.code(1, 0), -1);
        Check.due("code(7, 0)", x.code(7, 0), -1);
        Check.due("code(7, 3)", x.code(7, 3), 0);
        Check.outOfBoundsOutside(x, "code(.., 0)", 1, 7, code -> x.code(code, 0));
        Check.outOfBoundsOutside(x, "code(1, ..)", 0, 3, what -> x.code(1, what));
    }

    private static void placeBounds() {
        CoveSignals x = coast();
        Check.due("place(0, 0)", x.place(0, 0), 30);
        Check.due("place(15, 0)", x.place(15, 0), 30);
        Check.due("place(8, 4)", x.place(8, 4), 2);
        Check.outOfBoundsOutside(x, "place(.., 0)", 0, 15, place -> x.place(place, 0));
        Check.outOfBoundsOutside(x, "place(8, ..)", 0, 4, what -> x.place(8, what));
    }

    private static void moonNight0To999() {
        CoveSignals x = new CoveSignals();
        Check.due("moon(0)", x.moon(0), 6);
        Check.due("moon(999)", x.moon(999), 3);
        Check.due("moon(998)", x.moon(998), 4);
        Check.illegalArgumentOutside(x, "moon(..)", 0, 999, x::moon);
    }

    private static void countWhat0To10() {
        CoveSignals x = coast();
        Check.due("count(0)", x.count(0), 1);
        Check.due("count(10)", x.count(10), 0);
        Check.outOfBoundsOutside(x, "count(..)", 0, 10, x::count);
    }

    private static void passHours1To60() {
        CoveSignals x = coast();
        Check.due("pass(1), in which the rest of 5 bales is unloaded ahead", x.pass(1), 4);
        Check.due("hour 2", x.count(0), 2);
        Check.due("pass(60)", x.pass(60), 1);
        Check.due("hour 62", x.count(0), 62);
        Check.illegalArgumentOutside(x, "pass(..)", 1, 60, x::pass);
    }

    private static void untilBoatsThatThereAre() {
        CoveSignals x = coast();
        Check.due("until(0)", x.until(0), 0);
        Check.due("until(2)", x.until(2), -1);
        Check.outOfBoundsOutside(x, "until(..)", 0, 2, x::until);
    }

    private static void foreseeHours1To60() {
        CoveSignals x = coast();
        Check.due("foresee(1, 7)", x.foresee(1, 7), 12);
        Check.due("foresee(60, 7)", x.foresee(60, 7), 13);
        Check.illegalArgumentOutside(x, "foresee(.., 7)", 1, 60, hours -> x.foresee(hours, 7));
    }

    private static void foreseeWhat4To10() {
        CoveSignals x = coast();
        Check.due("foresee(1, 4)", x.foresee(1, 4), 2);
        Check.due("foresee(1, 10)", x.foresee(1, 10), 0);
        Check.outOfBoundsOutside(x, "foresee(1, ..)", 4, 10, what -> x.foresee(1, what));
    }

    private static void adviseBoatsThatThereAre() {
        CoveSignals x = new CoveSignals();
        x.boat(4, 3);
        x.boat(5, 3);
        x.setRoom(9, 3);
        Check.due("advise(0)", x.advise(0), 9);
        Check.due("advise(1)", x.advise(1), 9);
        Check.outOfBoundsOutside(x, "advise(..)", 0, 1, x::advise);
    }

    private static void quietPlace0To15() {
        CoveSignals x = coast();
        Check.due("quiet(0)", x.quiet(0), 0);
        Check.due("quiet(15)", x.quiet(15), 0);
        Check.outOfBoundsOutside(x, "quiet(..)", 0, 15, x::quiet);
    }
}
