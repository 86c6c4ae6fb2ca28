/** What several tests begin with. */
final class Scenes {
    private Scenes() {
    }

    /** A coast on which so many hours went by and nothing else happened. */
    static CoveSignals atHour(int hour) {
        CoveSignals x = new CoveSignals();
        passHours(x, hour);
        return x;
    }

    static void passHours(CoveSignals x, int hours) {
        for (int i = 0; i < hours; i++) {
            x.pass(1);
        }
    }

    static void showAlways(CoveSignals x, int lantern, int code) {
        for (int hour = 0; hour < 10; hour++) {
            x.setShow(lantern, hour, code);
        }
    }

    /** Brings a boat that lies at its goal from now on. */
    static int boatAtGoal(CoveSignals x, int place, int bales) {
        int boat = x.boat(place, bales);
        x.send(boat, place);
        return boat;
    }

    static long[] told(CoveSignals x, int boat) {
        long[] all = new long[7];
        for (int what = 0; what <= 6; what++) {
            all[what] = x.told(boat, what);
        }
        return all;
    }

    static long[] about(CoveSignals x, int watchman) {
        long[] all = new long[5];
        for (int what = 0; what <= 4; what++) {
            all[what] = x.about(watchman, what);
        }
        return all;
    }

    static long[] light(CoveSignals x, int lantern) {
        long[] all = new long[4];
        for (int what = 0; what <= 3; what++) {
            all[what] = x.light(lantern, what);
        }
        return all;
    }

    static long[] count(CoveSignals x) {
        long[] all = new long[11];
        for (int what = 0; what <= 10; what++) {
            all[what] = x.count(what);
        }
        return all;
    }
}
