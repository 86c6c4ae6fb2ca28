/** Promises 1 to 6: a new object, setRoom, setCode, lantern, setShow, watchman. */
public final class CoastTest {
    public static void main(String[] args) {
        promise1NewObject();
        promise2SetRoom();
        promise3SetCode();
        promise3GoalsStay();
        promise4Lantern();
        promise5SetShow();
        promise6Watchman();
        Check.end("CoastTest");
    }

    private static void promise1NewObject() {
        CoveSignals x = new CoveSignals();
        for (int what = 0; what <= 10; what++) {
            Check.due("new: count(" + what + ")", x.count(what), 0);
        }
        for (int place = 0; place < 16; place++) {
            for (int what = 0; what <= 4; what++) {
                Check.due("new: place(" + place + ", " + what + ")", x.place(place, what), 0);
            }
        }
        for (int code = 1; code <= 7; code++) {
            Check.due("new: code(.., 0)", x.code(code, 0), -1);
            for (int what = 1; what <= 3; what++) {
                Check.due("new: code(.., " + what + ")", x.code(code, what), 0);
            }
        }
        Check.outOfBounds(x, "new: light", () -> x.light(0, 0));
        Check.outOfBounds(x, "new: about", () -> x.about(0, 0));
        Check.outOfBounds(x, "new: told", () -> x.told(0, 0));
        CoveSignals y = new CoveSignals();
        x.setRoom(3, 4);
        x.boat(3, 3);
        Check.due("objects are apart", y.place(3, 0) + y.count(3), 0);
    }

    private static void promise2SetRoom() {
        CoveSignals x = new CoveSignals();
        Check.due("setRoom(0, 30)", x.setRoom(0, 30), 0);
        Check.due("setRoom(0, 7)", x.setRoom(0, 7), 30);
        Check.due("setRoom(15, 1)", x.setRoom(15, 1), 0);
        Check.due("place(0, 0)", x.place(0, 0), 7);
        Check.due("place(15, 0)", x.place(15, 0), 1);
        Check.due("place(1, 0)", x.place(1, 0), 0);
        x.boat(0, 4);
        x.send(0, 0);
        x.pass(1);
        Check.due("bales in the cave", x.place(0, 1), 4);
        Check.illegalState(x, "setRoom(0, 3)", () -> x.setRoom(0, 3));
        Check.illegalState(x, "setRoom(0, 0)", () -> x.setRoom(0, 0));
        Check.illegalArgument(x, "setRoom(0, -1), the state is wrong too", () -> x.setRoom(0, -1));
        Check.illegalArgument(x, "setRoom(0, 31)", () -> x.setRoom(0, 31));
        Check.outOfBounds(x, "setRoom(-1, 5)", () -> x.setRoom(-1, 5));
        Check.outOfBounds(x, "setRoom(16, 31)", () -> x.setRoom(16, 31));
        Check.outOfBounds(x, "setRoom(least)", () -> x.setRoom(Integer.MIN_VALUE, -1));
        Check.due("setRoom(0, 4), as much as there is", x.setRoom(0, 4), 7);
    }

    private static void promise3SetCode() {
        CoveSignals x = new CoveSignals();
        Check.due("setCode(1, 15)", x.setCode(1, 15), -1);
        Check.due("setCode(1, 0)", x.setCode(1, 0), 15);
        Check.due("setCode(1, -1)", x.setCode(1, -1), 0);
        Check.due("setCode(7, 3)", x.setCode(7, 3), -1);
        Check.due("code(7, 0)", x.code(7, 0), 3);
        Check.due("code(6, 0)", x.code(6, 0), -1);
        Check.outOfBounds(x, "setCode(0, 3)", () -> x.setCode(0, 3));
        Check.outOfBounds(x, "setCode(8, 3)", () -> x.setCode(8, 3));
        Check.outOfBounds(x, "setCode(-1, 3)", () -> x.setCode(-1, 3));
        Check.outOfBounds(x, "setCode(1, -2)", () -> x.setCode(1, -2));
        Check.outOfBounds(x, "setCode(1, 16)", () -> x.setCode(1, 16));
    }

    private static void promise3GoalsStay() {
        CoveSignals x = new CoveSignals();
        x.lantern(8);
        x.watchman(8, 8, 0);
        x.setCode(2, 3);
        for (int hour = 0; hour < 4; hour++) {
            x.setShow(0, hour, 2);
        }
        x.boat(10, 5);
        x.pass(3);
        Check.due("seen thrice", x.code(2, 1), 3);
        Check.due("known", x.code(2, 2), 1);
        Check.due("goal", x.told(0, 2), 3);
        x.setCode(2, 3);
        Check.due("told anew, seen 0 times, with the same place too", x.code(2, 1), 0);
        Check.due("not known any more", x.code(2, 2), 0);
        Check.due("the lantern was seen thrice still", x.light(0, 3), 3);
        x.setCode(2, 12);
        Check.due("goal stays", x.told(0, 2), 3);
        Check.due("led by it still", x.told(0, 5), 2);
        Check.due("boats led by it", x.code(2, 3), 1);
        x.setCode(2, -1);
        x.pass(1);
        Check.due("a code without a place is seen", x.code(2, 1), 1);
        Check.due("goal stays without a place", x.told(0, 2), 3);
    }

    private static void promise4Lantern() {
        CoveSignals x = new CoveSignals();
        Check.due("lantern(0)", x.lantern(0), 0);
        Check.due("lantern(15)", x.lantern(15), 1);
        Check.illegalState(x, "lantern(0) again", () -> x.lantern(0));
        Check.illegalState(x, "lantern(15) again", () -> x.lantern(15));
        Check.outOfBounds(x, "lantern(-1)", () -> x.lantern(-1));
        Check.outOfBounds(x, "lantern(16)", () -> x.lantern(16));
        Check.due("lantern(1)", x.lantern(1), 2);
        Check.due("lantern(7)", x.lantern(7), 3);
        Check.due("lantern(8)", x.lantern(8), 4);
        Check.illegalState(x, "a sixth lantern", () -> x.lantern(9));
        Check.outOfBounds(x, "a sixth lantern, no place", () -> x.lantern(16));
        Check.due("count(1)", x.count(1), 5);
        Check.due("light(3, 0)", x.light(3, 0), 7);
        Check.due("it shows none at first", x.light(3, 1), 0);
    }

    private static void promise5SetShow() {
        CoveSignals x = new CoveSignals();
        Check.outOfBounds(x, "setShow without lanterns", () -> x.setShow(0, 0, 1));
        x.lantern(4);
        x.lantern(5);
        Check.due("setShow(0, 0, 7)", x.setShow(0, 0, 7), 0);
        Check.due("setShow(0, 0, 1)", x.setShow(0, 0, 1), 7);
        Check.due("setShow(0, 9, 3)", x.setShow(0, 9, 3), 0);
        Check.due("setShow(0, 9, 0)", x.setShow(0, 9, 0), 3);
        Check.due("tables are apart", x.setShow(1, 0, 2), 0);
        Check.due("light(0, 1)", x.light(0, 1), 1);
        Check.due("light(1, 1)", x.light(1, 1), 2);
        Check.outOfBounds(x, "setShow(2, ..)", () -> x.setShow(2, 0, 1));
        Check.outOfBounds(x, "setShow(-1, ..)", () -> x.setShow(-1, 0, 1));
        Check.outOfBounds(x, "setShow(0, -1, 8)", () -> x.setShow(0, -1, 8));
        Check.outOfBounds(x, "setShow(0, 10, -1)", () -> x.setShow(0, 10, -1));
        Check.outOfBounds(x, "setShow(2, 0, 8)", () -> x.setShow(2, 0, 8));
        Check.illegalArgument(x, "setShow(0, 0, 8)", () -> x.setShow(0, 0, 8));
        Check.illegalArgument(x, "setShow(0, 0, -1)", () -> x.setShow(0, 0, -1));
    }

    private static void promise6Watchman() {
        CoveSignals x = new CoveSignals();
        Check.due("watchman(0, 15, 3)", x.watchman(0, 15, 3), 0);
        Check.due("watchman(15, 15, 0)", x.watchman(15, 15, 0), 1);
        Check.due("he stands at the lesser end", x.about(0, 0), 0);
        Check.due("he goes up", x.about(0, 1), 1);
        Check.due("one of a single place", x.about(1, 0), 15);
        Check.due("goes up too", x.about(1, 1), 1);
        Check.outOfBounds(x, "watchman(-1, 3, 9)", () -> x.watchman(-1, 3, 9));
        Check.outOfBounds(x, "watchman(16, 3, 1)", () -> x.watchman(16, 3, 1));
        Check.outOfBounds(x, "watchman(3, 16, 1)", () -> x.watchman(3, 16, 1));
        Check.outOfBounds(x, "watchman(3, -1, 1)", () -> x.watchman(3, -1, 1));
        Check.illegalArgument(x, "watchman(4, 3, 1)", () -> x.watchman(4, 3, 1));
        Check.illegalArgument(x, "watchman(3, 4, 4)", () -> x.watchman(3, 4, 4));
        Check.illegalArgument(x, "watchman(3, 4, -1)", () -> x.watchman(3, 4, -1));
        Check.due("watchman(2, 3, 1)", x.watchman(2, 3, 1), 2);
        Check.due("two at one place", x.watchman(2, 9, 2), 3);
        Check.illegalState(x, "a fifth", () -> x.watchman(2, 3, 1));
        Check.illegalArgument(x, "a fifth, wrong eyes", () -> x.watchman(2, 3, 4));
        Check.illegalArgument(x, "a fifth, wrong beat", () -> x.watchman(3, 2, 1));
        Check.outOfBounds(x, "a fifth, no place", () -> x.watchman(2, 16, 1));
        Check.due("count(2)", x.count(2), 4);
    }
}
