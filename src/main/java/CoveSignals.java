/** Signals along a coast at night: lanterns, boats and watchmen, hour by hour. */
public final class CoveSignals {

    private static final int PLACES = 16;
    private static final int MOST_ROOM = 30;
    private static final int CODES = 7;
    private static final int SEEN_TO_BE_KNOWN = 3;
    private static final int NIGHT_HOURS = 10;
    private static final int MOST_NIGHT = 999;
    private static final int MOST_LANTERNS = 5;
    private static final int MOST_WATCHMEN = 4;
    private static final int MOST_EYES = 3;
    private static final int MOST_BOATS = 6;
    private static final int MOST_BALES = 20;
    private static final int MOST_UNLOADED_AN_HOUR = 4;
    private static final int BOAT_SPEED = 2;
    private static final int FARTHER_FOR_KNOWN = 3;
    private static final int MOST_PASSED = 60;
    private static final int HOURS_OF_UNTIL = 120;
    private static final int HOURS_OF_ADVISE = 40;
    private static final int HOURS_OF_QUIET = 40;

    private static final int NONE = -1;
    private static final int AT_SEA = 0;
    private static final int GONE = 1;
    private static final int SEIZED = 2;

    private static final int TOLD_LAST = 6;
    private static final int ABOUT_LAST = 4;
    private static final int LIGHT_LAST = 3;
    private static final int CODE_LAST = 3;
    private static final int PLACE_LAST = 4;
    private static final int COUNT_LAST = 10;
    private static final int FORESEE_FIRST = 4;
    private static final long DIGEST_START = 1669L;

    private final Coast coast;
    /** Kept beside the coast and written over by each look ahead, so that no call makes objects. */
    private final Coast trial;

    public CoveSignals() {
        coast = new Coast();
        trial = new Coast();
    }

    // ---- the coast

    public int setRoom(int place, int room)
            throws IndexOutOfBoundsException, IllegalArgumentException, IllegalStateException {
        requirePlace(place);
        if (room < 0 || room > MOST_ROOM) {
            throw new IllegalArgumentException("room is not 0 to 30");
        }
        if (coast.stored[place] > room) {
            throw new IllegalStateException("more bales are in the cave");
        }
        int before = coast.room[place];
        coast.room[place] = room;
        return before;
    }

    public int setCode(int code, int place) throws IndexOutOfBoundsException {
        requireCode(code);
        requirePlaceOrNone(place);
        int before = coast.named[code];
        coast.named[code] = place;
        coast.seen[code] = 0;
        return before;
    }

    public int lantern(int place) throws IndexOutOfBoundsException, IllegalStateException {
        requirePlace(place);
        if (coast.lanternCount >= MOST_LANTERNS) {
            throw new IllegalStateException("there are 5 lanterns");
        }
        if (coast.hasLanternAt(place)) {
            throw new IllegalStateException("a lantern stands there");
        }
        int number = coast.lanternCount;
        coast.lanterns[number].place = place;
        coast.lanternCount = number + 1;
        return number;
    }

    public int setShow(int lantern, int hour, int code) throws IndexOutOfBoundsException, IllegalArgumentException {
        requireLantern(lantern);
        if (hour < 0 || hour >= NIGHT_HOURS) {
            throw new IndexOutOfBoundsException("hour is not 0 to 9");
        }
        if (code < 0 || code > CODES) {
            throw new IllegalArgumentException("code is not 0 to 7");
        }
        int[] table = coast.lanterns[lantern].table;
        int before = table[hour];
        table[hour] = code;
        return before;
    }

    public int watchman(int from, int to, int eyes)
            throws IndexOutOfBoundsException, IllegalArgumentException, IllegalStateException {
        requirePlace(from);
        requirePlace(to);
        if (from > to) {
            throw new IllegalArgumentException("from is greater than to");
        }
        if (eyes < 0 || eyes > MOST_EYES) {
            throw new IllegalArgumentException("eyes is not 0 to 3");
        }
        if (coast.watchmanCount >= MOST_WATCHMEN) {
            throw new IllegalStateException("there are 4 watchmen");
        }
        int number = coast.watchmanCount;
        coast.watchmen[number].begin(from, to, eyes);
        coast.watchmanCount = number + 1;
        return number;
    }

    // ---- boats

    public int boat(int place, int bales)
            throws IndexOutOfBoundsException, IllegalArgumentException, IllegalStateException {
        requirePlace(place);
        if (bales < 1 || bales > MOST_BALES) {
            throw new IllegalArgumentException("bales is not 1 to 20");
        }
        if (coast.boatCount >= MOST_BOATS) {
            throw new IllegalStateException("6 boats came");
        }
        int number = coast.boatCount;
        coast.boats[number].begin(place, bales);
        coast.boatCount = number + 1;
        return number;
    }

    public int send(int boat, int place) throws IndexOutOfBoundsException, IllegalStateException {
        requireBoat(boat);
        requirePlaceOrNone(place);
        requireAtSea(boat);
        int before = coast.boats[boat].goal;
        coast.boats[boat].sendTo(place);
        return before;
    }

    public int carry(int place, int many)
            throws IndexOutOfBoundsException, IllegalArgumentException, IllegalStateException {
        requirePlace(place);
        if (many < 1 || many > MOST_ROOM) {
            throw new IllegalArgumentException("many is not 1 to 30");
        }
        if (coast.stored[place] < many) {
            throw new IllegalStateException("there are fewer bales in the cave");
        }
        coast.stored[place] -= many;
        coast.balesCarried += many;
        return coast.stored[place];
    }

    // ---- what there is

    public int told(int boat, int what) throws IndexOutOfBoundsException {
        requireBoat(boat);
        requireWhat(what, 0, TOLD_LAST);
        return coast.boats[boat].tell(what);
    }

    public int about(int watchman, int what) throws IndexOutOfBoundsException {
        if (watchman < 0 || watchman >= coast.watchmanCount) {
            throw new IndexOutOfBoundsException("there is no such watchman");
        }
        requireWhat(what, 0, ABOUT_LAST);
        return coast.watchmen[watchman].tell(what, coast.moonNow());
    }

    public int light(int lantern, int what) throws IndexOutOfBoundsException {
        requireLantern(lantern);
        requireWhat(what, 0, LIGHT_LAST);
        return coast.tellLantern(coast.lanterns[lantern], what);
    }

    public int code(int code, int what) throws IndexOutOfBoundsException {
        requireCode(code);
        requireWhat(what, 0, CODE_LAST);
        return coast.tellCode(code, what);
    }

    public int place(int place, int what) throws IndexOutOfBoundsException {
        requirePlace(place);
        requireWhat(what, 0, PLACE_LAST);
        return coast.tellPlace(place, what);
    }

    public int moon(int night) throws IllegalArgumentException {
        if (night < 0 || night > MOST_NIGHT) {
            throw new IllegalArgumentException("night is not 0 to 999");
        }
        return moonOf(night);
    }

    public int count(int what) throws IndexOutOfBoundsException {
        requireWhat(what, 0, COUNT_LAST);
        return coast.tally(what);
    }

    // ---- hours and what would be

    public int pass(int hours) throws IllegalArgumentException {
        requireHours(hours);
        int before = coast.balesUnloaded();
        coast.letGoBy(hours);
        return coast.balesUnloaded() - before;
    }

    public int until(int boat) throws IndexOutOfBoundsException {
        requireBoat(boat);
        trial.copyFrom(coast);
        Boat watched = trial.boats[boat];
        int hours = 0;
        while (hours < HOURS_OF_UNTIL && watched.fate == AT_SEA) {
            trial.passHour();
            hours++;
        }
        return watched.fate == GONE ? hours : NONE;
    }

    public int foresee(int hours, int what) throws IllegalArgumentException, IndexOutOfBoundsException {
        requireHours(hours);
        requireWhat(what, FORESEE_FIRST, COUNT_LAST);
        trial.copyFrom(coast);
        trial.letGoBy(hours);
        return trial.tally(what);
    }

    public int advise(int boat) throws IndexOutOfBoundsException, IllegalStateException {
        requireBoat(boat);
        requireAtSea(boat);
        int best = 0;
        int most = -1;
        for (int place = 0; place < PLACES; place++) {
            int bales = balesIfSent(boat, place);
            if (bales > most) {
                most = bales;
                best = place;
            }
        }
        return best;
    }

    public int quiet(int place) throws IndexOutOfBoundsException {
        requirePlace(place);
        trial.copyFrom(coast);
        int hours = 0;
        while (hours < HOURS_OF_QUIET && trial.watchmenSeeingPlace(place) > 0) {
            trial.passHour();
            hours++;
        }
        return trial.watchmenSeeingPlace(place) == 0 ? hours : NONE;
    }

    public double mean() {
        int atSea = coast.boatsOfFate(AT_SEA);
        if (atSea == 0) {
            return 0.0;
        }
        return (double) coast.balesAtSea() / (double) atSea;
    }

    public long digest() {
        long d = DIGEST_START;
        for (int what = 0; what <= COUNT_LAST; what++) {
            d = d * 31 + count(what);
        }
        for (int number = 0; number < PLACES; number++) {
            for (int what = 0; what <= PLACE_LAST; what++) {
                d = d * 31 + place(number, what);
            }
        }
        for (int number = 1; number <= CODES; number++) {
            for (int what = 0; what <= CODE_LAST; what++) {
                d = d * 31 + code(number, what);
            }
        }
        return digestOfBoats(digestOfWatchmen(digestOfLanterns(d)));
    }

    private long digestOfLanterns(long start) {
        long d = start;
        for (int number = 0; number < coast.lanternCount; number++) {
            for (int what = 0; what <= LIGHT_LAST; what++) {
                d = d * 31 + light(number, what);
            }
            for (int hour = 0; hour < NIGHT_HOURS; hour++) {
                d = d * 31 + coast.lanterns[number].table[hour];
            }
        }
        return d;
    }

    private long digestOfWatchmen(long start) {
        long d = start;
        for (int number = 0; number < coast.watchmanCount; number++) {
            for (int what = 0; what <= ABOUT_LAST; what++) {
                d = d * 31 + about(number, what);
            }
        }
        return d;
    }

    private long digestOfBoats(long start) {
        long d = start;
        for (int number = 0; number < coast.boatCount; number++) {
            for (int what = 0; what <= TOLD_LAST; what++) {
                d = d * 31 + told(number, what);
            }
        }
        return d;
    }

    private int balesIfSent(int boat, int place) {
        trial.copyFrom(coast);
        trial.boats[boat].sendTo(place);
        trial.letGoBy(HOURS_OF_ADVISE);
        return trial.balesInCaves();
    }

    private static void requirePlace(int place) {
        if (place < 0 || place >= PLACES) {
            throw new IndexOutOfBoundsException("a place is not 0 to 15");
        }
    }

    private static void requirePlaceOrNone(int place) {
        if (place < NONE || place >= PLACES) {
            throw new IndexOutOfBoundsException("place is not -1 to 15");
        }
    }

    private static void requireCode(int code) {
        if (code < 1 || code > CODES) {
            throw new IndexOutOfBoundsException("code is not 1 to 7");
        }
    }

    private static void requireWhat(int what, int first, int last) {
        if (what < first || what > last) {
            throw new IndexOutOfBoundsException("there is no such what");
        }
    }

    private static void requireHours(int hours) {
        if (hours < 1 || hours > MOST_PASSED) {
            throw new IllegalArgumentException("hours is not 1 to 60");
        }
    }

    private void requireLantern(int lantern) {
        if (lantern < 0 || lantern >= coast.lanternCount) {
            throw new IndexOutOfBoundsException("there is no such lantern");
        }
    }

    private void requireBoat(int boat) {
        if (boat < 0 || boat >= coast.boatCount) {
            throw new IndexOutOfBoundsException("there is no such boat");
        }
    }

    private void requireAtSea(int boat) {
        if (coast.boats[boat].fate != AT_SEA) {
            throw new IllegalStateException("the boat is not at sea");
        }
    }

    // floorMod, as the hour may have wrapped around long behind the 512th call
    private static int moonOf(int night) {
        int fromFull = Math.floorMod(night, 12) - 6;
        return fromFull < 0 ? -fromFull : fromFull;
    }

    private static int distance(int one, int other) {
        return one < other ? other - one : one - other;
    }

    private static final class Lantern {
        final int[] table = new int[NIGHT_HOURS];
        int place;
        int timesSeen;

        void copyFrom(Lantern other) {
            System.arraycopy(other.table, 0, table, 0, NIGHT_HOURS);
            place = other.place;
            timesSeen = other.timesSeen;
        }
    }

    private static final class Watchman {
        int from;
        int to;
        int eyes;
        int place;
        int way;
        int boatsSeized;

        void begin(int lesserEnd, int greaterEnd, int itsEyes) {
            from = lesserEnd;
            to = greaterEnd;
            eyes = itsEyes;
            place = lesserEnd;
            way = 1;
            boatsSeized = 0;
        }

        void copyFrom(Watchman other) {
            from = other.from;
            to = other.to;
            eyes = other.eyes;
            place = other.place;
            way = other.way;
            boatsSeized = other.boatsSeized;
        }

        int sightOfPlaces(int moon) {
            return eyes + moon / 2;
        }

        int sightOfLanterns(int moon) {
            return 2 * eyes + 6 - moon;
        }

        void walk() {
            if (from == to) {
                return;
            }
            if (way > 0 && place == to || way < 0 && place == from) {
                way = -way;
            }
            place += way;
        }

        int tell(int what, int moon) {
            switch (what) {
                case 0: return place;
                case 1: return way;
                case 2: return sightOfPlaces(moon);
                case 3: return sightOfLanterns(moon);
                default: return boatsSeized;
            }
        }
    }

    private static final class Boat {
        int place;
        int bales;
        int goal;
        int ledBy;
        boolean minds;
        int fate;
        int unloaded;

        void begin(int itsPlace, int itsBales) {
            place = itsPlace;
            bales = itsBales;
            goal = NONE;
            ledBy = 0;
            minds = true;
            fate = AT_SEA;
            unloaded = 0;
        }

        void copyFrom(Boat other) {
            place = other.place;
            bales = other.bales;
            goal = other.goal;
            ledBy = other.ledBy;
            minds = other.minds;
            fate = other.fate;
            unloaded = other.unloaded;
        }

        void sendTo(int newGoal) {
            goal = newGoal;
            minds = newGoal == NONE;
            ledBy = 0;
        }

        boolean liesAtGoal() {
            return fate == AT_SEA && goal == place;
        }

        void sail() {
            if (goal == NONE) {
                return;
            }
            int far = distance(place, goal);
            int step = far < BOAT_SPEED ? far : BOAT_SPEED;
            place += goal < place ? -step : step;
        }

        int stage() {
            if (fate == GONE) {
                return 3;
            }
            if (fate == SEIZED) {
                return 4;
            }
            if (goal == NONE) {
                return 0;
            }
            return goal == place ? 2 : 1;
        }

        int tell(int what) {
            switch (what) {
                case 0: return place;
                case 1: return bales;
                case 2: return goal;
                case 3: return stage();
                case 4: return unloaded;
                case 5: return ledBy;
                default: return minds ? 1 : 0;
            }
        }
    }

    /** All that there is, and how an hour goes; every row of it is made once and used again. */
    private static final class Coast {
        final int[] room = new int[PLACES];
        final int[] stored = new int[PLACES];
        final int[] named = new int[CODES + 1];
        final int[] seen = new int[CODES + 1];
        final Lantern[] lanterns = new Lantern[MOST_LANTERNS];
        final Watchman[] watchmen = new Watchman[MOST_WATCHMEN];
        final Boat[] boats = new Boat[MOST_BOATS];
        int lanternCount;
        int watchmanCount;
        int boatCount;
        int hour;
        int balesSeized;
        int balesCarried;

        Coast() {
            for (int code = 0; code <= CODES; code++) {
                named[code] = NONE;
            }
            for (int i = 0; i < MOST_LANTERNS; i++) {
                lanterns[i] = new Lantern();
            }
            for (int i = 0; i < MOST_WATCHMEN; i++) {
                watchmen[i] = new Watchman();
            }
            for (int i = 0; i < MOST_BOATS; i++) {
                boats[i] = new Boat();
            }
        }

        void copyFrom(Coast other) {
            System.arraycopy(other.room, 0, room, 0, PLACES);
            System.arraycopy(other.stored, 0, stored, 0, PLACES);
            System.arraycopy(other.named, 0, named, 0, CODES + 1);
            System.arraycopy(other.seen, 0, seen, 0, CODES + 1);
            lanternCount = other.lanternCount;
            watchmanCount = other.watchmanCount;
            boatCount = other.boatCount;
            for (int i = 0; i < lanternCount; i++) {
                lanterns[i].copyFrom(other.lanterns[i]);
            }
            for (int i = 0; i < watchmanCount; i++) {
                watchmen[i].copyFrom(other.watchmen[i]);
            }
            for (int i = 0; i < boatCount; i++) {
                boats[i].copyFrom(other.boats[i]);
            }
            hour = other.hour;
            balesSeized = other.balesSeized;
            balesCarried = other.balesCarried;
        }

        int moonNow() {
            return moonOf(hour / NIGHT_HOURS);
        }

        int hourOfNight() {
            return Math.floorMod(hour, NIGHT_HOURS);
        }

        boolean isKnown(int code) {
            return seen[code] >= SEEN_TO_BE_KNOWN;
        }

        boolean hasLanternAt(int place) {
            for (int i = 0; i < lanternCount; i++) {
                if (lanterns[i].place == place) {
                    return true;
                }
            }
            return false;
        }

        // ---- how an hour goes

        void letGoBy(int hours) {
            for (int i = 0; i < hours; i++) {
                passHour();
            }
        }

        void passHour() {
            int moon = moonNow();
            int nightHour = hourOfNight();
            noteLanterns(nightHour, moon);
            moveBoats(nightHour, moon);
            moveWatchmen(moon);
            hour++;
        }

        void noteLanterns(int nightHour, int moon) {
            for (int i = 0; i < lanternCount; i++) {
                Lantern lantern = lanterns[i];
                int shown = lantern.table[nightHour];
                if (shown != 0 && watchmenSeeingLantern(lantern.place, moon) > 0) {
                    seen[shown]++;
                    lantern.timesSeen++;
                }
            }
        }

        void moveBoats(int nightHour, int moon) {
            for (int i = 0; i < boatCount; i++) {
                Boat boat = boats[i];
                if (boat.liesAtGoal()) {
                    unload(boat);
                } else if (boat.fate == AT_SEA) {
                    if (boat.minds) {
                        followLantern(boat, nightHour, moon);
                    }
                    boat.sail();
                }
            }
        }

        void unload(Boat boat) {
            int still = room[boat.place] - stored[boat.place];
            int most = still < MOST_UNLOADED_AN_HOUR ? still : MOST_UNLOADED_AN_HOUR;
            int many = boat.bales < most ? boat.bales : most;
            stored[boat.place] += many;
            boat.bales -= many;
            boat.unloaded += many;
            if (boat.bales == 0) {
                boat.fate = GONE;
            }
        }

        void followLantern(Boat boat, int nightHour, int moon) {
            int nearest = 9 - moon + 1;
            int code = 0;
            for (int i = 0; i < lanternCount; i++) {
                int shown = lanterns[i].table[nightHour];
                int far = distance(lanterns[i].place, boat.place);
                if (shown != 0 && named[shown] != NONE && far < nearest) {
                    nearest = far;
                    code = shown;
                }
            }
            if (code != 0) {
                boat.goal = named[code];
                boat.ledBy = code;
            }
        }

        void moveWatchmen(int moon) {
            for (int i = 0; i < watchmanCount; i++) {
                watchmen[i].walk();
                seizeFirst(watchmen[i], moon);
            }
        }

        void seizeFirst(Watchman watchman, int moon) {
            int sight = watchman.sightOfPlaces(moon);
            for (int i = 0; i < boatCount; i++) {
                Boat boat = boats[i];
                int farther = isKnown(boat.ledBy) ? FARTHER_FOR_KNOWN : 0;
                if (boat.liesAtGoal() && distance(watchman.place, boat.place) <= sight + farther) {
                    balesSeized += boat.bales;
                    boat.bales = 0;
                    boat.fate = SEIZED;
                    watchman.boatsSeized++;
                    return;
                }
            }
        }

        // ---- what there is

        int watchmenSeeingLantern(int place, int moon) {
            int many = 0;
            for (int i = 0; i < watchmanCount; i++) {
                if (distance(watchmen[i].place, place) <= watchmen[i].sightOfLanterns(moon)) {
                    many++;
                }
            }
            return many;
        }

        int watchmenSeeingPlace(int place) {
            int moon = moonNow();
            int many = 0;
            for (int i = 0; i < watchmanCount; i++) {
                if (distance(watchmen[i].place, place) <= watchmen[i].sightOfPlaces(moon)) {
                    many++;
                }
            }
            return many;
        }

        int watchmenAt(int place) {
            int many = 0;
            for (int i = 0; i < watchmanCount; i++) {
                if (watchmen[i].place == place) {
                    many++;
                }
            }
            return many;
        }

        int boatsAtSeaAt(int place) {
            int many = 0;
            for (int i = 0; i < boatCount; i++) {
                if (boats[i].fate == AT_SEA && boats[i].place == place) {
                    many++;
                }
            }
            return many;
        }

        int boatsAtSeaLedBy(int code) {
            int many = 0;
            for (int i = 0; i < boatCount; i++) {
                if (boats[i].fate == AT_SEA && boats[i].ledBy == code) {
                    many++;
                }
            }
            return many;
        }

        int boatsOfFate(int fate) {
            int many = 0;
            for (int i = 0; i < boatCount; i++) {
                if (boats[i].fate == fate) {
                    many++;
                }
            }
            return many;
        }

        // boats that are gone or seized have no bales left to be added here
        int balesAtSea() {
            int bales = 0;
            for (int i = 0; i < boatCount; i++) {
                bales += boats[i].bales;
            }
            return bales;
        }

        int balesUnloaded() {
            int bales = 0;
            for (int i = 0; i < boatCount; i++) {
                bales += boats[i].unloaded;
            }
            return bales;
        }

        int balesInCaves() {
            int bales = 0;
            for (int place = 0; place < PLACES; place++) {
                bales += stored[place];
            }
            return bales;
        }

        int knownCodes() {
            int many = 0;
            for (int code = 1; code <= CODES; code++) {
                if (isKnown(code)) {
                    many++;
                }
            }
            return many;
        }

        int tellLantern(Lantern lantern, int what) {
            switch (what) {
                case 0: return lantern.place;
                case 1: return lantern.table[hourOfNight()];
                case 2: return watchmenSeeingLantern(lantern.place, moonNow());
                default: return lantern.timesSeen;
            }
        }

        int tellCode(int code, int what) {
            switch (what) {
                case 0: return named[code];
                case 1: return seen[code];
                case 2: return isKnown(code) ? 1 : 0;
                default: return boatsAtSeaLedBy(code);
            }
        }

        int tellPlace(int place, int what) {
            switch (what) {
                case 0: return room[place];
                case 1: return stored[place];
                case 2: return watchmenAt(place);
                case 3: return boatsAtSeaAt(place);
                default: return watchmenSeeingPlace(place);
            }
        }

        int tally(int what) {
            switch (what) {
                case 0: return hour;
                case 1: return lanternCount;
                case 2: return watchmanCount;
                case 3: return boatCount;
                case 4: return boatsOfFate(AT_SEA);
                case 5: return boatsOfFate(GONE);
                case 6: return boatsOfFate(SEIZED);
                case 7: return balesInCaves();
                case 8: return balesSeized;
                case 9: return balesCarried;
                default: return knownCodes();
            }
        }
    }
}
