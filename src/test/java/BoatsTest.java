/** Promises 7 to 9: boat, send, carry. */
public final class BoatsTest {
    public static void main(String[] args) {
        promise7Boat();
        promise8Send();
        promise8NotAtSea();
        promise9Carry();
        Check.end("BoatsTest");
    }

    private static void promise7Boat() {
        CoveSignals x = new CoveSignals();
        Check.due("boat(0, 1)", x.boat(0, 1), 0);
        Check.due("boat(15, 20)", x.boat(15, 20), 1);
        long[] told = new long[7];
        for (int what = 0; what <= 6; what++) {
            told[what] = x.told(1, what);
        }
        Check.dueAll("told of a new boat", told, 15, 20, -1, 0, 0, 0, 1);
        Check.outOfBounds(x, "boat(-1, 0)", () -> x.boat(-1, 0));
        Check.outOfBounds(x, "boat(16, 21)", () -> x.boat(16, 21));
        Check.illegalArgument(x, "boat(3, 0)", () -> x.boat(3, 0));
        Check.illegalArgument(x, "boat(3, 21)", () -> x.boat(3, 21));
        Check.due("two at one place", x.boat(15, 2), 2);
        for (int number = 3; number < 6; number++) {
            Check.due("boat(.., ..)", x.boat(number, number), number);
        }
        Check.illegalState(x, "a seventh", () -> x.boat(3, 3));
        Check.illegalArgument(x, "a seventh, no bales", () -> x.boat(3, 0));
        Check.outOfBounds(x, "a seventh, no place", () -> x.boat(16, 3));
        x.setRoom(0, 1);
        x.send(0, 0);
        x.pass(1);
        Check.due("one is gone", x.count(5), 1);
        Check.illegalState(x, "a seventh, one is gone", () -> x.boat(3, 3));
        Check.due("count(3)", x.count(3), 6);
    }

    private static void promise8Send() {
        CoveSignals x = new CoveSignals();
        Check.outOfBounds(x, "send without boats", () -> x.send(0, 3));
        x.boat(8, 5);
        x.lantern(8);
        x.setCode(3, 15);
        for (int hour = 0; hour < 10; hour++) {
            x.setShow(0, hour, 3);
        }
        x.pass(1);
        Check.due("led", x.told(0, 5), 3);
        Check.due("send(0, 0)", x.send(0, 0), 15);
        Check.due("goal", x.told(0, 2), 0);
        Check.due("led by none", x.told(0, 5), 0);
        Check.due("does not mind", x.told(0, 6), 0);
        x.pass(1);
        Check.due("goes to 0", x.told(0, 0), 8);
        Check.due("goal stays", x.told(0, 2), 0);
        Check.due("send(0, 15)", x.send(0, 15), 0);
        Check.due("send(0, -1)", x.send(0, -1), 15);
        Check.due("no goal", x.told(0, 2), -1);
        Check.due("minds again", x.told(0, 6), 1);
        Check.due("send(0, -1) again", x.send(0, -1), -1);
        x.pass(1);
        Check.due("led again", x.told(0, 5), 3);
        Check.due("send(0, -1)", x.send(0, -1), 15);
        Check.due("led by none again", x.told(0, 5), 0);
        Check.outOfBounds(x, "send(0, -2)", () -> x.send(0, -2));
        Check.outOfBounds(x, "send(0, 16)", () -> x.send(0, 16));
        Check.outOfBounds(x, "send(1, 3)", () -> x.send(1, 3));
        Check.outOfBounds(x, "send(-1, 3)", () -> x.send(-1, 3));
    }

    private static void promise8NotAtSea() {
        CoveSignals x = new CoveSignals();
        x.setRoom(4, 3);
        x.boat(4, 3);
        x.boat(12, 3);
        x.send(0, 4);
        x.send(1, 12);
        x.watchman(12, 12, 0);
        x.pass(1);
        Check.due("gone", x.told(0, 3), 3);
        Check.due("seized", x.told(1, 3), 4);
        Check.illegalState(x, "send a boat that is gone", () -> x.send(0, 3));
        Check.illegalState(x, "send a boat that is gone, -1", () -> x.send(0, -1));
        Check.illegalState(x, "send a seized boat", () -> x.send(1, 3));
        Check.outOfBounds(x, "send a seized boat, no place", () -> x.send(1, 16));
    }

    private static void promise9Carry() {
        CoveSignals x = new CoveSignals();
        x.setRoom(4, 30);
        x.setRoom(5, 30);
        x.boat(4, 7);
        x.boat(5, 1);
        x.send(0, 4);
        x.send(1, 5);
        x.pass(2);
        Check.due("carry(4, 2)", x.carry(4, 2), 5);
        Check.due("place(4, 1)", x.place(4, 1), 5);
        Check.due("count(9)", x.count(9), 2);
        Check.illegalState(x, "carry(4, 6)", () -> x.carry(4, 6));
        Check.illegalState(x, "carry(4, 30)", () -> x.carry(4, 30));
        Check.illegalArgument(x, "carry(4, 31)", () -> x.carry(4, 31));
        Check.illegalArgument(x, "carry(4, 0)", () -> x.carry(4, 0));
        Check.illegalArgument(x, "carry(4, -1)", () -> x.carry(4, -1));
        Check.outOfBounds(x, "carry(16, 0)", () -> x.carry(16, 0));
        Check.outOfBounds(x, "carry(-1, 31)", () -> x.carry(-1, 31));
        Check.due("carry(4, 5)", x.carry(4, 5), 0);
        Check.illegalState(x, "carry(4, 1)", () -> x.carry(4, 1));
        Check.due("carry(5, 1)", x.carry(5, 1), 0);
        Check.due("count(9) adds up", x.count(9), 8);
        Check.due("count(7)", x.count(7), 0);
        Check.due("pass brings nothing more", x.pass(1), 0);
    }
}
