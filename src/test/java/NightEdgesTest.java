/** The nights and the moon: the last hour of a night, the first of the next, and the turn of the 12 nights. */
public final class NightEdgesTest {
    public static void main(String[] args) {
        aNightHas10Hours();
        theTableBeginsAnewWithTheNight();
        theMoonOfThe12Nights();
        theMoonTurnsBehindTheLastHourOfANight();
        halfOfTheMoonIsCut();
        heSeesPlacesByEyesAndHalfTheMoon();
        heSeesLanternsByTwiceHisEyesAndTheDark();
        lanternsReachBoatsBy9LessTheMoon();
        seizingByTheMoonOfTheHourThatPasses();
        seeingLanternsByTheMoonOfTheHourThatPasses();
        leadingByTheMoonOfTheHourThatPasses();
        theHourThatComesIsAskedAbout();
        anHourIsOneGreater();
        hoursInOneCallOrInMany();
        nightsBehindThe999th();
        Check.end("NightEdgesTest");
    }

    private static void aNightHas10Hours() {
        CoveSignals x = new CoveSignals();
        x.lantern(5);
        for (int hour = 0; hour < 10; hour++) {
            x.setShow(0, hour, hour % 7 + 1);
        }
        for (int hour = 0; hour < 135; hour++) {
            Check.due("shown in hour " + hour, x.light(0, 1), hour % 10 % 7 + 1);
            x.pass(1);
        }
    }

    private static void theTableBeginsAnewWithTheNight() {
        CoveSignals x = Scenes.atHour(9);
        x.lantern(5);
        x.setShow(0, 9, 1);
        x.setShow(0, 0, 2);
        x.watchman(5, 5, 0);
        x.pass(1);
        Check.due("the last hour shows the last of the table", x.code(1, 1), 1);
        Check.due("and not the first", x.code(2, 1), 0);
        x.pass(1);
        Check.due("the first hour of the next night shows the first", x.code(2, 1), 1);
        Check.due("and not the last", x.code(1, 1), 1);
    }

    private static final int[] MOONS = {6, 5, 4, 3, 2, 1, 0, 1, 2, 3, 4, 5, 6, 5};

    private static void theMoonOfThe12Nights() {
        CoveSignals x = new CoveSignals();
        for (int night = 0; night < MOONS.length; night++) {
            Check.due("moon(" + night + ")", x.moon(night), MOONS[night]);
        }
        Check.due("moon(23)", x.moon(23), 5);
        Check.due("moon(24)", x.moon(24), 6);
        Check.due("moon(995)", x.moon(995), 5);
        Check.due("moon(996)", x.moon(996), 6);
        Check.due("moon(997)", x.moon(997), 5);
    }

    private static void theMoonTurnsBehindTheLastHourOfANight() {
        CoveSignals x = new CoveSignals();
        x.watchman(5, 5, 0);
        for (int night = 0; night < MOONS.length; night++) {
            for (int hour = 0; hour < 10; hour++) {
                Check.due("dark in hour " + x.count(0), x.about(0, 3), 6 - MOONS[night]);
                x.pass(1);
            }
        }
    }

    private static void halfOfTheMoonIsCut() {
        CoveSignals x = new CoveSignals();
        x.watchman(5, 5, 0);
        x.watchman(5, 5, 3);
        int[] halves = {3, 2, 2, 1, 1, 0, 0, 0, 1, 1, 2, 2, 3, 2};
        for (int night = 0; night < halves.length; night++) {
            Check.due("eyes 0, night " + night, x.about(0, 2), halves[night]);
            Check.due("eyes 3, night " + night, x.about(1, 2), 3 + halves[night]);
            x.pass(10);
        }
    }

    private static void heSeesPlacesByEyesAndHalfTheMoon() {
        for (int night = 0; night <= 6; night++) {
            for (int eyes = 0; eyes <= 3; eyes++) {
                CoveSignals x = Scenes.atHour(10 * night);
                x.watchman(8, 8, eyes);
                int far = eyes + (6 - night) / 2;
                String name = "night " + night + ", eyes " + eyes;
                Check.due(name + " up", x.place(8 + far, 4), 1);
                Check.due(name + " too far up", x.place(8 + far + 1, 4), 0);
                Check.due(name + " down", x.place(8 - far, 4), 1);
                Check.due(name + " too far down", x.place(8 - far - 1, 4), 0);
            }
        }
    }

    private static void heSeesLanternsByTwiceHisEyesAndTheDark() {
        for (int night = 0; night <= 6; night++) {
            for (int eyes = 0; eyes <= 3; eyes++) {
                CoveSignals x = Scenes.atHour(10 * night);
                x.watchman(0, 0, eyes);
                int far = 2 * eyes + night;
                x.lantern(far);
                x.lantern(far + 1);
                x.setShow(0, 0, 1);
                x.setShow(1, 0, 2);
                String name = "night " + night + ", eyes " + eyes;
                Check.due(name + " would see", x.light(0, 2), 1);
                Check.due(name + " would not see", x.light(1, 2), 0);
                x.pass(1);
                Check.due(name + " saw", x.code(1, 1), 1);
                Check.due(name + " did not see", x.code(2, 1), 0);
            }
        }
    }

    private static void lanternsReachBoatsBy9LessTheMoon() {
        for (int night = 0; night <= 12; night++) {
            CoveSignals x = Scenes.atHour(10 * night);
            int reach = 9 - MOONS[night];
            x.lantern(15);
            x.setCode(5, 1);
            x.setShow(0, 0, 5);
            x.boat(15 - reach, 3);
            x.boat(15 - reach - 1, 3);
            x.boat(15, 3);
            x.pass(1);
            Check.due("night " + night + " just within", x.told(0, 5), 5);
            Check.due("night " + night + " just without", x.told(1, 5), 0);
            Check.due("night " + night + " at the lantern", x.told(2, 5), 5);
        }
    }

    /** A watchman of eyes 0, and a boat that lies 3 from him: at moon 6 he sees it, at moon 5 he does not. */
    private static int seized3FarInHour(int hour) {
        CoveSignals x = Scenes.atHour(hour);
        x.watchman(4, 4, 0);
        Scenes.boatAtGoal(x, 7, 9);
        x.pass(1);
        return x.about(0, 4);
    }

    private static void seizingByTheMoonOfTheHourThatPasses() {
        Check.due("hour 0, moon 6", seized3FarInHour(0), 1);
        Check.due("hour 9, moon 6 still", seized3FarInHour(9), 1);
        Check.due("hour 10, moon 5", seized3FarInHour(10), 0);
        Check.due("hour 119, moon 5 still", seized3FarInHour(119), 0);
        Check.due("hour 120, moon 6", seized3FarInHour(120), 1);
        Check.due("hour 129, moon 6 still", seized3FarInHour(129), 1);
        Check.due("hour 130, moon 5", seized3FarInHour(130), 0);
    }

    /** A watchman of eyes 0, and a lantern 1 from him: at moon 5 he sees it, at moon 6 he does not. */
    private static int seen1FarInHour(int hour) {
        CoveSignals x = Scenes.atHour(hour);
        x.watchman(4, 4, 0);
        x.lantern(5);
        Scenes.showAlways(x, 0, 3);
        x.pass(1);
        return x.code(3, 1);
    }

    private static void seeingLanternsByTheMoonOfTheHourThatPasses() {
        Check.due("hour 9, moon 6 still", seen1FarInHour(9), 0);
        Check.due("hour 10, moon 5", seen1FarInHour(10), 1);
        Check.due("hour 119, moon 5 still", seen1FarInHour(119), 1);
        Check.due("hour 120, moon 6", seen1FarInHour(120), 0);
        Check.due("hour 129, moon 6 still", seen1FarInHour(129), 0);
        Check.due("hour 130, moon 5", seen1FarInHour(130), 1);
    }

    private static int ledFarInHour(int far, int hour) {
        CoveSignals x = Scenes.atHour(hour);
        x.lantern(2);
        x.setCode(3, 15);
        Scenes.showAlways(x, 0, 3);
        x.boat(2 + far, 4);
        x.pass(1);
        return x.told(0, 5);
    }

    private static void leadingByTheMoonOfTheHourThatPasses() {
        Check.due("hour 9, moon 6 still", ledFarInHour(4, 9), 0);
        Check.due("hour 10, moon 5", ledFarInHour(4, 10), 3);
        Check.due("hour 59, moon 1 still", ledFarInHour(9, 59), 0);
        Check.due("hour 60, moon 0", ledFarInHour(9, 60), 3);
        Check.due("hour 69, moon 0 still", ledFarInHour(9, 69), 3);
        Check.due("hour 70, moon 1", ledFarInHour(9, 70), 0);
        Check.due("hour 119, moon 5 still", ledFarInHour(4, 119), 3);
        Check.due("hour 120, moon 6", ledFarInHour(4, 120), 0);
    }

    private static void theHourThatComesIsAskedAbout() {
        CoveSignals x = Scenes.atHour(9);
        x.watchman(4, 4, 0);
        x.lantern(5);
        Check.due("hour 9: place 3 far", x.place(7, 4), 1);
        Check.due("hour 9: lantern 1 far", x.light(0, 2), 0);
        Check.dueAll("hour 9: about", Scenes.about(x, 0), 4, 1, 3, 0, 0);
        Check.due("hour 9: quiet behind one", x.quiet(7), 1);
        x.pass(1);
        Check.due("hour 10: place 3 far", x.place(7, 4), 0);
        Check.due("hour 10: place 2 far", x.place(6, 4), 1);
        Check.due("hour 10: lantern 1 far", x.light(0, 2), 1);
        Check.dueAll("hour 10: about", Scenes.about(x, 0), 4, 1, 2, 1, 0);
        Check.due("hour 10: quiet now", x.quiet(7), 0);
    }

    private static void anHourIsOneGreater() {
        CoveSignals x = new CoveSignals();
        for (int hour = 0; hour < 25; hour++) {
            Check.due("the hour that comes", x.count(0), hour);
            x.pass(1);
        }
    }

    private static void hoursInOneCallOrInMany() {
        for (int hours = 1; hours <= 60; hours++) {
            CoveSignals x = led();
            CoveSignals y = led();
            x.pass(hours);
            Scenes.passHours(y, hours);
            Check.due("pass(" + hours + ")", x.digest(), y.digest());
        }
    }

    private static CoveSignals led() {
        CoveSignals x = new CoveSignals();
        x.setRoom(12, 30);
        x.setCode(1, 12);
        x.lantern(9);
        Scenes.showAlways(x, 0, 1);
        x.watchman(0, 5, 1);
        x.boat(4, 13);
        x.boat(14, 20);
        return x;
    }

    /** 512 calls in all: of the night 3054, the remainder by 12 is 6. */
    private static void nightsBehindThe999th() {
        CoveSignals x = new CoveSignals();
        x.watchman(5, 5, 0);
        for (int i = 0; i < 509; i++) {
            x.pass(60);
        }
        Check.due("hour 30540", x.count(0), 30540);
        Check.due("moon 0", x.about(0, 3), 6);
    }
}
