import java.util.ArrayList;
import java.util.Arrays;
import java.util.Comparator;
import java.util.List;
import java.util.Optional;

/**
 * The document once more, written for plainness and apart from the class: the order of its sentences is the order of
 * the code, nothing is kept that can be looked up, and a look ahead is a whole copy.
 */
final class Model {
    static final class Lantern {
        int at;
        int[] table = new int[10];
        int noticed;
    }

    static final class Watchman {
        int from;
        int to;
        int eyes;
        int at;
        boolean up = true;
        int caught;
    }

    static final class Boat {
        int at;
        int bales;
        Integer goal;
        int code;
        boolean minds = true;
        String state = "sea";
        int landed;

        boolean atGoal() {
            return goal != null && goal == at;
        }
    }

    private final int[] rooms = new int[16];
    private final int[] caves = new int[16];
    private final Integer[] names = new Integer[8];
    private final int[] sightings = new int[8];
    private final List<Lantern> lanterns = new ArrayList<>();
    private final List<Watchman> watchmen = new ArrayList<>();
    private final List<Boat> boats = new ArrayList<>();
    private int time;
    private int lostToWatch;
    private int carriedOff;

    // ---- calls, by name

    /** What the call answers; an exception is thrown as the document names it. */
    double call(String name, int... a) {
        switch (name) {
            case "setRoom": return setRoom(a[0], a[1]);
            case "setCode": return setCode(a[0], a[1]);
            case "lantern": return lantern(a[0]);
            case "setShow": return setShow(a[0], a[1], a[2]);
            case "watchman": return watchman(a[0], a[1], a[2]);
            case "boat": return boat(a[0], a[1]);
            case "send": return send(a[0], a[1]);
            case "carry": return carry(a[0], a[1]);
            case "told": return told(a[0], a[1]);
            case "about": return about(a[0], a[1]);
            case "light": return light(a[0], a[1]);
            case "code": return code(a[0], a[1]);
            case "place": return place(a[0], a[1]);
            case "moon": return moon(a[0]);
            case "count": return count(a[0]);
            case "pass": return pass(a[0]);
            case "until": return until(a[0]);
            case "foresee": return foresee(a[0], a[1]);
            case "advise": return advise(a[0]);
            case "quiet": return quiet(a[0]);
            case "mean": return mean();
            default: throw new AssertionError(name);
        }
    }

    private int setRoom(int place, int room) {
        index(place, 0, 15);
        argument(room, 0, 30);
        state(caves[place] > room);
        int before = rooms[place];
        rooms[place] = room;
        return before;
    }

    private int setCode(int code, int place) {
        index(code, 1, 7);
        index(place, -1, 15);
        int before = orNone(names[code]);
        names[code] = place == -1 ? null : Integer.valueOf(place);
        sightings[code] = 0;
        return before;
    }

    private int lantern(int place) {
        index(place, 0, 15);
        state(lanterns.size() == 5 || lanterns.stream().anyMatch(l -> l.at == place));
        Lantern lantern = new Lantern();
        lantern.at = place;
        lanterns.add(lantern);
        return lanterns.size() - 1;
    }

    private int setShow(int lantern, int hour, int code) {
        index(lantern, 0, lanterns.size() - 1);
        index(hour, 0, 9);
        argument(code, 0, 7);
        int before = lanterns.get(lantern).table[hour];
        lanterns.get(lantern).table[hour] = code;
        return before;
    }

    private int watchman(int from, int to, int eyes) {
        index(from, 0, 15);
        index(to, 0, 15);
        argument(from, 0, to);
        argument(eyes, 0, 3);
        state(watchmen.size() == 4);
        Watchman watchman = new Watchman();
        watchman.from = from;
        watchman.to = to;
        watchman.eyes = eyes;
        watchman.at = from;
        watchmen.add(watchman);
        return watchmen.size() - 1;
    }

    private int boat(int place, int bales) {
        index(place, 0, 15);
        argument(bales, 1, 20);
        state(boats.size() == 6);
        Boat boat = new Boat();
        boat.at = place;
        boat.bales = bales;
        boats.add(boat);
        return boats.size() - 1;
    }

    private int send(int number, int place) {
        index(number, 0, boats.size() - 1);
        index(place, -1, 15);
        Boat boat = boats.get(number);
        state(!boat.state.equals("sea"));
        int before = orNone(boat.goal);
        boat.goal = place == -1 ? null : Integer.valueOf(place);
        boat.minds = place == -1;
        boat.code = 0;
        return before;
    }

    private int carry(int place, int many) {
        index(place, 0, 15);
        argument(many, 1, 30);
        state(caves[place] < many);
        caves[place] -= many;
        carriedOff += many;
        return caves[place];
    }

    private int told(int number, int what) {
        index(number, 0, boats.size() - 1);
        index(what, 0, 6);
        Boat boat = boats.get(number);
        int seaState = boat.goal == null ? 0 : boat.atGoal() ? 2 : 1;
        int state = boat.state.equals("gone") ? 3 : boat.state.equals("seized") ? 4 : seaState;
        return new int[] {boat.at, boat.bales, orNone(boat.goal), state, boat.landed, boat.code, boat.minds ? 1 : 0}[what];
    }

    private int about(int number, int what) {
        index(number, 0, watchmen.size() - 1);
        index(what, 0, 4);
        Watchman w = watchmen.get(number);
        return new int[] {w.at, w.up ? 1 : -1, w.eyes + moonNow() / 2, 2 * w.eyes + (6 - moonNow()), w.caught}[what];
    }

    private int light(int number, int what) {
        index(number, 0, lanterns.size() - 1);
        index(what, 0, 3);
        Lantern l = lanterns.get(number);
        int watching = (int) watchmen.stream().filter(w -> seesLantern(w, l)).count();
        return new int[] {l.at, l.table[time % 10], watching, l.noticed}[what];
    }

    private int code(int code, int what) {
        index(code, 1, 7);
        index(what, 0, 3);
        int led = (int) boats.stream().filter(b -> b.state.equals("sea") && b.code == code).count();
        return new int[] {orNone(names[code]), sightings[code], known(code) ? 1 : 0, led}[what];
    }

    private int place(int place, int what) {
        index(place, 0, 15);
        index(what, 0, 4);
        int standing = (int) watchmen.stream().filter(w -> w.at == place).count();
        int atSea = (int) boats.stream().filter(b -> b.state.equals("sea") && b.at == place).count();
        int seeing = (int) watchmen.stream().filter(w -> seesPlace(w, place, 0)).count();
        return new int[] {rooms[place], caves[place], standing, atSea, seeing}[what];
    }

    private static int moon(int night) {
        argument(night, 0, 999);
        return Math.abs(night % 12 - 6);
    }

    private int count(int what) {
        index(what, 0, 10);
        int known = 0;
        for (int code = 1; code <= 7; code++) {
            known += known(code) ? 1 : 0;
        }
        return new int[] {time, lanterns.size(), watchmen.size(), boats.size(), inState("sea"), inState("gone"),
            inState("seized"), Arrays.stream(caves).sum(), lostToWatch, carriedOff, known}[what];
    }

    private int pass(int hours) {
        argument(hours, 1, 60);
        int unloaded = 0;
        for (int i = 0; i < hours; i++) {
            unloaded += hour();
        }
        return unloaded;
    }

    private int until(int number) {
        index(number, 0, boats.size() - 1);
        for (int hours = 0; hours <= 120; hours++) {
            if (behind(hours).boats.get(number).state.equals("gone")) {
                return hours;
            }
        }
        return -1;
    }

    private int foresee(int hours, int what) {
        argument(hours, 1, 60);
        index(what, 4, 10);
        return behind(hours).count(what);
    }

    private int advise(int number) {
        index(number, 0, boats.size() - 1);
        state(!boats.get(number).state.equals("sea"));
        int best = -1;
        int most = -1;
        for (int place = 0; place <= 15; place++) {
            Model copy = behind(0);
            copy.send(number, place);
            int bales = copy.behind(40).count(7);
            if (bales > most) {
                best = place;
                most = bales;
            }
        }
        return best;
    }

    private int quiet(int place) {
        index(place, 0, 15);
        for (int hours = 0; hours <= 40; hours++) {
            if (behind(hours).place(place, 4) == 0) {
                return hours;
            }
        }
        return -1;
    }

    private double mean() {
        return boats.stream().filter(b -> b.state.equals("sea")).mapToInt(b -> b.bales).average().orElse(0.0);
    }

    long digest() {
        List<Integer> numbers = new ArrayList<>();
        tell(numbers, 11, this::count);
        for (int place = 0; place <= 15; place++) {
            int number = place;
            tell(numbers, 5, what -> place(number, what));
        }
        for (int code = 1; code <= 7; code++) {
            int number = code;
            tell(numbers, 4, what -> code(number, what));
        }
        for (int lantern = 0; lantern < lanterns.size(); lantern++) {
            int number = lantern;
            tell(numbers, 4, what -> light(number, what));
            tell(numbers, 10, hour -> lanterns.get(number).table[hour]);
        }
        for (int watchman = 0; watchman < watchmen.size(); watchman++) {
            int number = watchman;
            tell(numbers, 5, what -> about(number, what));
        }
        for (int boat = 0; boat < boats.size(); boat++) {
            int number = boat;
            tell(numbers, 7, what -> told(number, what));
        }
        long d = 1669;
        for (int x : numbers) {
            d = d * 31 + x;
        }
        return d;
    }

    private static void tell(List<Integer> numbers, int many, java.util.function.IntUnaryOperator teller) {
        for (int what = 0; what < many; what++) {
            numbers.add(teller.applyAsInt(what));
        }
    }

    // ---- an hour

    private int hour() {
        for (Lantern lantern : lanterns) {
            int shown = lantern.table[time % 10];
            if (shown != 0 && watchmen.stream().anyMatch(w -> seesLantern(w, lantern))) {
                sightings[shown]++;
                lantern.noticed++;
            }
        }
        int unloaded = 0;
        for (Boat boat : boats) {
            if (boat.state.equals("sea")) {
                unloaded += boatsHour(boat);
            }
        }
        for (Watchman watchman : watchmen) {
            watchmansHour(watchman);
        }
        time++;
        return unloaded;
    }

    private int boatsHour(Boat boat) {
        if (boat.atGoal()) {
            int many = Math.min(Math.min(boat.bales, 4), rooms[boat.at] - caves[boat.at]);
            caves[boat.at] += many;
            boat.bales -= many;
            boat.landed += many;
            if (boat.bales == 0) {
                boat.state = "gone";
            }
            return many;
        }
        if (boat.minds) {
            Optional<Lantern> leading = lanterns.stream()
                .filter(l -> l.table[time % 10] != 0 && names[l.table[time % 10]] != null)
                .filter(l -> Math.abs(l.at - boat.at) <= 9 - moonNow())
                .min(Comparator.comparingInt(l -> 100 * Math.abs(l.at - boat.at) + lanterns.indexOf(l)));
            if (leading.isPresent()) {
                boat.code = leading.get().table[time % 10];
                boat.goal = names[boat.code];
            }
        }
        for (int step = 0; step < 2 && boat.goal != null; step++) {
            boat.at += Integer.signum(boat.goal - boat.at);
        }
        return 0;
    }

    private void watchmansHour(Watchman watchman) {
        if (watchman.from < watchman.to) {
            if (watchman.at == watchman.to) {
                watchman.up = false;
            } else if (watchman.at == watchman.from) {
                watchman.up = true;
            }
            watchman.at += watchman.up ? 1 : -1;
        }
        for (Boat boat : boats) {
            boolean known = boat.code != 0 && known(boat.code);
            if (boat.state.equals("sea") && boat.atGoal() && seesPlace(watchman, boat.at, known ? 3 : 0)) {
                lostToWatch += boat.bales;
                boat.bales = 0;
                boat.state = "seized";
                watchman.caught++;
                break;
            }
        }
    }

    // ---- what it is asked for

    private int moonNow() {
        return Math.abs(time / 10 % 12 - 6);
    }

    private boolean known(int code) {
        return sightings[code] > 2;
    }

    private boolean seesPlace(Watchman w, int place, int farther) {
        return Math.abs(w.at - place) <= w.eyes + moonNow() / 2 + farther;
    }

    private boolean seesLantern(Watchman w, Lantern l) {
        return Math.abs(w.at - l.at) <= 2 * w.eyes + (6 - moonNow());
    }

    private int inState(String state) {
        return (int) boats.stream().filter(b -> b.state.equals(state)).count();
    }

    private Model behind(int hours) {
        Model copy = new Model();
        System.arraycopy(rooms, 0, copy.rooms, 0, 16);
        System.arraycopy(caves, 0, copy.caves, 0, 16);
        System.arraycopy(names, 0, copy.names, 0, 8);
        System.arraycopy(sightings, 0, copy.sightings, 0, 8);
        lanterns.forEach(l -> copy.lanterns.add(copyOf(l)));
        watchmen.forEach(w -> copy.watchmen.add(copyOf(w)));
        boats.forEach(b -> copy.boats.add(copyOf(b)));
        copy.time = time;
        copy.lostToWatch = lostToWatch;
        copy.carriedOff = carriedOff;
        for (int i = 0; i < hours; i++) {
            copy.hour();
        }
        return copy;
    }

    private static Lantern copyOf(Lantern l) {
        Lantern copy = new Lantern();
        copy.at = l.at;
        copy.table = l.table.clone();
        copy.noticed = l.noticed;
        return copy;
    }

    private static Watchman copyOf(Watchman w) {
        Watchman copy = new Watchman();
        copy.from = w.from;
        copy.to = w.to;
        copy.eyes = w.eyes;
        copy.at = w.at;
        copy.up = w.up;
        copy.caught = w.caught;
        return copy;
    }

    private static Boat copyOf(Boat b) {
        Boat copy = new Boat();
        copy.at = b.at;
        copy.bales = b.bales;
        copy.goal = b.goal;
        copy.code = b.code;
        copy.minds = b.minds;
        copy.state = b.state;
        copy.landed = b.landed;
        return copy;
    }

    private static int orNone(Integer number) {
        return number == null ? -1 : number;
    }

    private static void index(int number, int least, int greatest) {
        if (number < least || number > greatest) {
            throw new IndexOutOfBoundsException();
        }
    }

    private static void argument(int number, int least, int greatest) {
        if (number < least || number > greatest) {
            throw new IllegalArgumentException();
        }
    }

    private static void state(boolean refused) {
        if (refused) {
            throw new IllegalStateException();
        }
    }
}
