/** How an hour goes: each boundary case of its steps, lanterns, boats and watchmen. */
public final class HourEdgesTest {
    public static void main(String[] args) {
        seenAlsoWithACodeThatNamesNoPlace();
        seenFromWhereHeStandsThen();
        seenOnceHoweverManySee();
        knownFromTheThirdTime();
        toldAnewItWasSeen0Times();
        unloadsAtMost4();
        unloadsAtMostTheRoom();
        goneWithTheLastBale();
        unloadsOnlyIfAtItsGoalAheadOfTheStep();
        looksAtNoLanternsAtItsGoal();
        roomByTheNumbersOfBoats();
        ofSeveralNearestTheSmallestNumber();
        nearestOfThoseThatLead();
        withoutAnyAllOfThatStays();
        sentOnesMindNoLanterns();
        sentToNoneItMindsThemAgain();
        goes2PlacesOrAsFarAsItIs();
        turnsAboutForANewGoal();
        walksToTheEndsOfTheCoast();
        walksBetweenTwoPlaces();
        aSinglePlaceStaysAndDoesNotTurn();
        eachWatchmanAheadOfTheNext();
        seizesFromWhereHeWentTo();
        seizesTheFirstByNumbers();
        seizesAlsoThoseThatCameInThisHour();
        seizesNoneThatIsNotAtItsGoal();
        seizesOneAnHour();
        sees3PlacesFartherForAKnownCode();
        knownByThenInTheSameHour();
        retoldCodesLeadThemStill();
        theRestOfTheBalesIsSeized();
        goneAheadOfTheWatchmen();
        goneAndSeizedKeepWhatTheyHad();
        goneAndSeizedDoNothingMore();
        onlyThoseAtSeaCountAsLed();
        Check.end("HourEdgesTest");
    }

    // ---- step 1

    private static void seenAlsoWithACodeThatNamesNoPlace() {
        CoveSignals x = new CoveSignals();
        x.lantern(5);
        x.setShow(0, 0, 7);
        x.watchman(5, 5, 0);
        x.boat(5, 3);
        x.pass(1);
        Check.due("seen", x.code(7, 1), 1);
        Check.due("seen of the lantern", x.light(0, 3), 1);
        Check.due("names none", x.code(7, 0), -1);
        Check.due("leads none", x.told(0, 5), 0);
        Check.due("no goal by it", x.told(0, 2), -1);
    }

    private static void seenFromWhereHeStandsThen() {
        CoveSignals x = new CoveSignals();
        x.lantern(6);
        x.lantern(5);
        Scenes.showAlways(x, 0, 1);
        Scenes.showAlways(x, 1, 2);
        x.watchman(5, 6, 0);
        x.pass(1);
        Check.due("he stood at 5", x.code(2, 1), 1);
        Check.due("he goes to 6 behind it", x.code(1, 1), 0);
        x.pass(1);
        Check.due("he stood at 6", x.code(1, 1), 1);
        Check.due("he goes to 5 behind it", x.code(2, 1), 1);
    }

    private static void seenOnceHoweverManySee() {
        CoveSignals x = new CoveSignals();
        x.lantern(5);
        x.lantern(6);
        Scenes.showAlways(x, 0, 1);
        for (int i = 0; i < 4; i++) {
            x.watchman(5, 5, 1);
        }
        x.pass(1);
        Check.due("once by four", x.code(1, 1), 1);
        Check.due("once by four", x.light(0, 3), 1);
        Scenes.showAlways(x, 1, 1);
        x.pass(1);
        Check.due("once for each lantern", x.code(1, 1), 3);
        Check.due("of the first", x.light(0, 3), 2);
        Check.due("of the second", x.light(1, 3), 1);
    }

    private static void knownFromTheThirdTime() {
        CoveSignals x = new CoveSignals();
        x.lantern(5);
        Scenes.showAlways(x, 0, 1);
        x.watchman(5, 5, 0);
        for (int seen = 0; seen <= 5; seen++) {
            Check.due("seen", x.code(1, 1), seen);
            Check.due("known, seen " + seen, x.code(1, 2), seen >= 3 ? 1 : 0);
            Check.due("known codes, seen " + seen, x.count(10), seen >= 3 ? 1 : 0);
            x.pass(1);
        }
    }

    private static void toldAnewItWasSeen0Times() {
        CoveSignals x = new CoveSignals();
        x.lantern(5);
        Scenes.showAlways(x, 0, 1);
        x.watchman(5, 5, 0);
        x.pass(4);
        x.setCode(2, 7);
        Check.due("another one is told", x.code(1, 1), 4);
        x.setCode(1, -1);
        Check.due("with the place that it named", x.code(1, 1), 0);
        Check.due("not known", x.code(1, 2) + x.count(10), 0);
        Check.due("the lantern was seen as often", x.light(0, 3), 4);
        x.pass(2);
        Check.due("twice again", x.code(1, 2), 0);
        x.pass(1);
        Check.due("thrice again", x.code(1, 2), 1);
    }

    // ---- step 2

    private static void unloadsAtMost4() {
        for (int bales = 1; bales <= 20; bales++) {
            CoveSignals x = new CoveSignals();
            x.setRoom(7, 30);
            Scenes.boatAtGoal(x, 7, bales);
            int first = Math.min(bales, 4);
            Check.due("first hour of " + bales, x.pass(1), first);
            Check.due("left of " + bales, x.told(0, 1), bales - first);
            Check.due("in the cave", x.place(7, 1), first);
            Check.due("second hour of " + bales, x.pass(1), Math.min(bales - first, 4));
        }
    }

    private static void unloadsAtMostTheRoom() {
        for (int room = 0; room <= 6; room++) {
            CoveSignals x = new CoveSignals();
            x.setRoom(7, room);
            Scenes.boatAtGoal(x, 7, 9);
            Check.due("first hour, room " + room, x.pass(1), Math.min(room, 4));
            Check.due("all hours, room " + room, x.pass(10) + Math.min(room, 4), room);
            Check.due("in the cave, room " + room, x.place(7, 1), room);
        }
    }

    private static void goneWithTheLastBale() {
        CoveSignals x = new CoveSignals();
        x.setRoom(7, 30);
        Scenes.boatAtGoal(x, 7, 4);
        Scenes.boatAtGoal(x, 7, 5);
        x.pass(1);
        Check.dueAll("gone", Scenes.told(x, 0), 7, 0, 7, 3, 4, 0, 0);
        Check.dueAll("one left", Scenes.told(x, 1), 7, 1, 7, 2, 4, 0, 0);
        x.pass(1);
        Check.dueAll("gone too", Scenes.told(x, 1), 7, 0, 7, 3, 5, 0, 0);
    }

    private static void unloadsOnlyIfAtItsGoalAheadOfTheStep() {
        CoveSignals x = new CoveSignals();
        x.setRoom(7, 30);
        x.setCode(1, 7);
        x.lantern(7);
        x.setShow(0, 0, 1);
        x.boat(7, 1);
        x.boat(8, 1);
        x.send(1, 7);
        x.boat(5, 1);
        x.send(2, 7);
        Scenes.boatAtGoal(x, 7, 1);
        Check.due("only the one that lay there", x.pass(1), 1);
        Check.dueAll("led to its own place", Scenes.told(x, 0), 7, 1, 7, 2, 0, 1, 1);
        Check.dueAll("came by 1", Scenes.told(x, 1), 7, 1, 7, 2, 0, 0, 0);
        Check.dueAll("came by 2", Scenes.told(x, 2), 7, 1, 7, 2, 0, 0, 0);
        Check.due("from the next hour on", x.pass(1), 3);
    }

    private static void looksAtNoLanternsAtItsGoal() {
        CoveSignals x = new CoveSignals();
        x.setRoom(7, 5);
        x.setCode(1, 7);
        x.setCode(2, 12);
        x.lantern(7);
        x.setShow(0, 0, 1);
        for (int hour = 1; hour < 10; hour++) {
            x.setShow(0, hour, 2);
        }
        x.boat(7, 9);
        x.pass(1);
        x.pass(1);
        Check.dueAll("while it unloads", Scenes.told(x, 0), 7, 5, 7, 2, 4, 1, 1);
        x.pass(1);
        Check.dueAll("while it fills the cave", Scenes.told(x, 0), 7, 4, 7, 2, 5, 1, 1);
        x.pass(5);
        Check.dueAll("while the cave is full", Scenes.told(x, 0), 7, 4, 7, 2, 5, 1, 1);
    }

    private static void roomByTheNumbersOfBoats() {
        CoveSignals x = new CoveSignals();
        x.setRoom(7, 6);
        for (int i = 0; i < 3; i++) {
            x.boat(7, 4);
        }
        x.send(2, 7);
        x.send(1, 7);
        x.send(0, 7);
        Check.due("6 in all", x.pass(1), 6);
        Check.due("boat 0", x.told(0, 4), 4);
        Check.due("boat 1", x.told(1, 4), 2);
        Check.due("boat 2", x.told(2, 4), 0);
    }

    private static void ofSeveralNearestTheSmallestNumber() {
        for (int round = 0; round < 2; round++) {
            CoveSignals x = new CoveSignals();
            x.lantern(round == 0 ? 6 : 10);
            x.lantern(round == 0 ? 10 : 6);
            x.lantern(15);
            x.setShow(0, 0, 1);
            x.setShow(1, 0, 2);
            x.setCode(1, 15);
            x.setCode(2, 0);
            x.boat(8, 3);
            x.pass(1);
            Check.due("2 far both, round " + round, x.told(0, 5), 1);
            Check.due("goal, round " + round, x.told(0, 2), 15);
        }
    }

    private static void nearestOfThoseThatLead() {
        CoveSignals x = new CoveSignals();
        x.lantern(8);
        x.lantern(9);
        x.lantern(11);
        x.lantern(10);
        x.setShow(1, 0, 7);
        x.setShow(2, 0, 1);
        x.setShow(3, 0, 2);
        x.setCode(1, 0);
        x.setCode(2, 15);
        x.boat(8, 3);
        x.pass(1);
        Check.due("dark at 0, no place at 1, by that at 2 before that at 3", x.told(0, 5), 2);
        Check.due("its goal", x.told(0, 2), 15);
        CoveSignals y = new CoveSignals();
        y.lantern(9);
        y.lantern(8);
        y.setShow(0, 0, 1);
        y.setShow(1, 0, 2);
        y.setCode(1, 0);
        y.setCode(2, 15);
        y.boat(8, 3);
        y.pass(1);
        Check.due("0 far before 1 far", y.told(0, 5), 2);
    }

    private static void withoutAnyAllOfThatStays() {
        CoveSignals x = new CoveSignals();
        x.lantern(8);
        x.setShow(0, 0, 1);
        x.setShow(0, 2, 2);
        x.setCode(1, 15);
        x.boat(5, 3);
        x.boat(4, 3);
        x.pass(1);
        Check.dueAll("led", Scenes.told(x, 0), 7, 3, 15, 1, 0, 1, 1);
        Check.dueAll("never led", Scenes.told(x, 1), 4, 3, -1, 0, 0, 0, 1);
        x.pass(1);
        Check.dueAll("a dark hour", Scenes.told(x, 0), 9, 3, 15, 1, 0, 1, 1);
        x.pass(1);
        Check.dueAll("a code without a place", Scenes.told(x, 0), 11, 3, 15, 1, 0, 1, 1);
        x.setCode(2, 0);
        Scenes.showAlways(x, 0, 2);
        x.pass(1);
        Check.dueAll("3 far, another code", Scenes.told(x, 0), 9, 3, 0, 1, 0, 2, 1);
        x.send(0, -1);
        x.pass(1);
        Check.dueAll("led again by the same", Scenes.told(x, 0), 7, 3, 0, 1, 0, 2, 1);
        Check.dueAll("4 far all the time", Scenes.told(x, 1), 4, 3, -1, 0, 0, 0, 1);
    }

    private static void sentOnesMindNoLanterns() {
        CoveSignals x = new CoveSignals();
        x.lantern(8);
        Scenes.showAlways(x, 0, 1);
        x.setCode(1, 15);
        x.boat(8, 3);
        x.send(0, 3);
        x.pass(1);
        Check.dueAll("goes where it was sent", Scenes.told(x, 0), 6, 3, 3, 1, 0, 0, 0);
        x.pass(2);
        Check.dueAll("lies where it was sent", Scenes.told(x, 0), 3, 3, 3, 2, 0, 0, 0);
    }

    private static void sentToNoneItMindsThemAgain() {
        CoveSignals x = new CoveSignals();
        x.lantern(8);
        x.setShow(0, 1, 1);
        x.setCode(1, 15);
        x.boat(8, 3);
        x.send(0, 3);
        Check.due("send(0, -1)", x.send(0, -1), 3);
        Check.dueAll("no goal", Scenes.told(x, 0), 8, 3, -1, 0, 0, 0, 1);
        x.pass(1);
        Check.dueAll("stays in a dark hour", Scenes.told(x, 0), 8, 3, -1, 0, 0, 0, 1);
        x.pass(1);
        Check.dueAll("led", Scenes.told(x, 0), 10, 3, 15, 1, 0, 1, 1);
        Check.due("send(0, -1) on its way", x.send(0, -1), 15);
        Check.dueAll("led by none", Scenes.told(x, 0), 10, 3, -1, 0, 0, 0, 1);
    }

    private static void goes2PlacesOrAsFarAsItIs() {
        for (int from = 0; from < 16; from++) {
            for (int goal = 0; goal < 16; goal++) {
                CoveSignals x = new CoveSignals();
                x.boat(from, 3);
                x.send(0, goal);
                x.pass(1);
                int step = Math.max(-2, Math.min(2, goal - from));
                Check.due("from " + from + " to " + goal, x.told(0, 0), from + step);
                Check.due("at its goal", x.told(0, 3), from + step == goal ? 2 : 1);
                x.pass(8);
                Check.due("it stays at " + goal, x.told(0, 0), goal);
            }
        }
    }

    private static void turnsAboutForANewGoal() {
        CoveSignals x = new CoveSignals();
        x.lantern(8);
        x.setCode(1, 15);
        x.setCode(2, 0);
        for (int hour = 0; hour < 10; hour++) {
            x.setShow(0, hour, 1 + hour % 2);
        }
        x.boat(8, 3);
        for (int hour = 0; hour < 10; hour++) {
            x.pass(1);
            Check.due("place behind hour " + hour, x.told(0, 0), hour % 2 == 0 ? 10 : 8);
            Check.due("led behind hour " + hour, x.told(0, 5), 1 + hour % 2);
        }
    }

    // ---- step 3

    private static void walksToTheEndsOfTheCoast() {
        CoveSignals x = new CoveSignals();
        x.watchman(0, 15, 0);
        for (int hour = 1; hour <= 70; hour++) {
            x.pass(1);
            int along = hour % 30;
            Check.due("place in hour " + hour, x.about(0, 0), along <= 15 ? along : 30 - along);
            Check.due("way in hour " + hour, x.about(0, 1), along >= 1 && along <= 15 ? 1 : -1);
        }
    }

    private static void walksBetweenTwoPlaces() {
        CoveSignals x = new CoveSignals();
        x.watchman(14, 15, 0);
        for (int hour = 1; hour <= 10; hour++) {
            x.pass(1);
            Check.due("place in hour " + hour, x.about(0, 0), 14 + hour % 2);
            Check.due("way in hour " + hour, x.about(0, 1), hour % 2 == 1 ? 1 : -1);
        }
    }

    private static void aSinglePlaceStaysAndDoesNotTurn() {
        CoveSignals x = new CoveSignals();
        x.watchman(0, 0, 0);
        x.watchman(15, 15, 0);
        x.watchman(7, 7, 0);
        for (int hour = 1; hour <= 10; hour++) {
            x.pass(1);
            Check.dueAll("at 0", new long[] {x.about(0, 0), x.about(0, 1)}, 0, 1);
            Check.dueAll("at 15", new long[] {x.about(1, 0), x.about(1, 1)}, 15, 1);
            Check.dueAll("at 7", new long[] {x.about(2, 0), x.about(2, 1)}, 7, 1);
        }
    }

    /** The first sees both boats, the second only boat 0: that is seized by then, and boat 1 is left. */
    private static void eachWatchmanAheadOfTheNext() {
        CoveSignals x = new CoveSignals();
        x.watchman(7, 7, 1);
        x.watchman(2, 2, 0);
        Scenes.boatAtGoal(x, 5, 4);
        Scenes.boatAtGoal(x, 11, 5);
        x.pass(1);
        Check.due("seized by the first", x.about(0, 4), 1);
        Check.due("none left for the second", x.about(1, 4), 0);
        Check.due("boat 0", x.told(0, 3), 4);
        Check.due("boat 1", x.told(1, 3), 2);
        x.pass(1);
        Check.due("in the next hour", x.told(1, 3), 4);
    }

    private static void seizesFromWhereHeWentTo() {
        CoveSignals x = Scenes.atHour(60);
        x.watchman(5, 7, 0);
        Scenes.boatAtGoal(x, 5, 3);
        Scenes.boatAtGoal(x, 6, 4);
        x.pass(1);
        Check.due("not at 5, from where he went", x.told(0, 3), 2);
        Check.due("at 6, where he went to", x.told(1, 3), 4);
        x.pass(2);
        Check.due("at 7 and back at 6", x.told(0, 3), 2);
        x.pass(1);
        Check.due("at 5 again", x.told(0, 3), 4);
    }

    private static void seizesTheFirstByNumbers() {
        CoveSignals x = new CoveSignals();
        x.watchman(8, 8, 0);
        Scenes.boatAtGoal(x, 12, 9);
        Scenes.boatAtGoal(x, 5, 9);
        Scenes.boatAtGoal(x, 8, 9);
        x.pass(1);
        Check.due("too far", x.told(0, 3), 2);
        Check.due("3 far, the first by numbers", x.told(1, 3), 4);
        Check.due("0 far, the next by numbers", x.told(2, 3), 2);
    }

    private static void seizesAlsoThoseThatCameInThisHour() {
        CoveSignals x = new CoveSignals();
        x.setRoom(8, 30);
        x.watchman(8, 8, 0);
        x.boat(10, 3);
        x.send(0, 8);
        Check.due("nothing unloaded", x.pass(1), 0);
        Check.dueAll("as it came", Scenes.told(x, 0), 8, 0, 8, 4, 0, 0, 0);
        Check.due("bales seized", x.count(8), 3);
    }

    private static void seizesNoneThatIsNotAtItsGoal() {
        CoveSignals x = new CoveSignals();
        x.watchman(8, 8, 3);
        x.boat(8, 3);
        x.boat(13, 3);
        x.send(1, 0);
        x.pass(6);
        Check.due("without a goal", x.told(0, 3), 0);
        Check.due("it goes by before his eyes", x.told(1, 0), 1);
        Check.due("not at its goal", x.told(1, 3), 1);
        x.pass(1);
        Check.due("at its goal, 8 far", x.told(1, 3), 2);
        Check.due("seized", x.about(0, 4), 0);
    }

    private static void seizesOneAnHour() {
        CoveSignals x = new CoveSignals();
        for (int i = 0; i < 6; i++) {
            Scenes.boatAtGoal(x, 8, i + 1);
        }
        x.watchman(8, 8, 0);
        int bales = 0;
        for (int hour = 1; hour <= 6; hour++) {
            x.pass(1);
            bales += hour;
            Check.due("boats seized", x.about(0, 4), hour);
            Check.due("bales seized", x.count(8), bales);
            Check.due("at sea", x.count(4), 6 - hour);
        }
        x.pass(1);
        Check.due("no more", x.about(0, 4), 6);
    }

    /** In the hour 60 and later, at moon 0: a boat led by code 1 lies at 8, and a watchman of these eyes stands there. */
    private static CoveSignals ledTo8(int timesSeen, int watchmanAt, int eyes) {
        CoveSignals x = Scenes.atHour(59);
        x.pass(1);
        x.setCode(1, 8);
        x.lantern(0);
        x.lantern(15);
        x.watchman(0, 0, 0);
        for (int hour = 0; hour < timesSeen; hour++) {
            x.setShow(0, hour, 1);
        }
        x.pass(3);
        x.setShow(1, 3, 1);
        x.boat(9, 5);
        x.pass(1);
        x.watchman(watchmanAt, watchmanAt, eyes);
        return x;
    }

    private static int stateBehindAnHour(CoveSignals x) {
        x.pass(1);
        return x.told(0, 3);
    }

    private static void sees3PlacesFartherForAKnownCode() {
        for (int eyes = 0; eyes <= 3; eyes++) {
            int far = eyes + 3;
            String name = "eyes " + eyes;
            Check.due(name + ", known", stateBehindAnHour(ledTo8(3, 8 + far, eyes)), 4);
            Check.due(name + ", known, down", stateBehindAnHour(ledTo8(3, 8 - far, eyes)), 4);
            Check.due(name + ", known, 1 too far", stateBehindAnHour(ledTo8(3, 8 + far + 1, eyes)), 2);
            Check.due(name + ", not known", stateBehindAnHour(ledTo8(2, 8 + far, eyes)), 2);
            Check.due(name + ", not known, by his eyes", stateBehindAnHour(ledTo8(2, 8 + eyes, eyes)), 4);
            CoveSignals x = ledTo8(3, 8 + far, eyes);
            Check.due(name + ", place() tells without a boat", x.place(8, 4), 0);
            x.send(0, 8);
            Check.due(name + ", sent, so led by none", stateBehindAnHour(x), 2);
        }
    }

    private static void knownByThenInTheSameHour() {
        CoveSignals x = ledTo8(2, 11, 0);
        x.setShow(0, 4, 1);
        Check.due("not known ahead of the hour", x.code(1, 2), 0);
        Check.due("seen for the third time in it", stateBehindAnHour(x), 4);
    }

    private static void retoldCodesLeadThemStill() {
        CoveSignals x = ledTo8(3, 11, 0);
        x.setCode(1, 2);
        Check.due("led by it still", x.told(0, 5), 1);
        Check.due("its goal stays", x.told(0, 2), 8);
        Check.due("told anew it is not known", stateBehindAnHour(x), 2);
        for (int hour = 5; hour < 8; hour++) {
            x.setShow(0, hour, 1);
        }
        x.pass(2);
        Check.due("seen twice since", x.told(0, 3), 2);
        x.pass(1);
        Check.due("seen thrice since, though it names another place", x.told(0, 3), 4);
    }

    private static void theRestOfTheBalesIsSeized() {
        CoveSignals x = new CoveSignals();
        x.setRoom(8, 30);
        Scenes.boatAtGoal(x, 8, 20);
        x.pass(2);
        x.watchman(8, 8, 0);
        Check.due("4 more ahead of him", x.pass(1), 4);
        Check.dueAll("seized", Scenes.told(x, 0), 8, 0, 8, 4, 12, 0, 0);
        Check.due("bales seized", x.count(8), 8);
        Check.due("bales in the cave stay", x.place(8, 1), 12);
    }

    private static void goneAheadOfTheWatchmen() {
        CoveSignals x = new CoveSignals();
        x.setRoom(8, 4);
        Scenes.boatAtGoal(x, 8, 4);
        x.watchman(8, 8, 0);
        x.pass(1);
        Check.due("gone", x.told(0, 3), 3);
        Check.due("not seized", x.about(0, 4) + x.count(6) + x.count(8), 0);
    }

    /** Boat 0 is led by code 1 to 8 and gone, boat 1 is led by code 2 to 2 and seized. */
    private static CoveSignals goneAndSeized() {
        CoveSignals x = new CoveSignals();
        x.setRoom(8, 4);
        x.setCode(1, 8);
        x.setCode(2, 2);
        x.lantern(9);
        x.lantern(3);
        x.setShow(0, 0, 1);
        x.setShow(1, 0, 2);
        x.boat(9, 4);
        x.boat(3, 6);
        x.watchman(0, 0, 0);
        x.pass(2);
        return x;
    }

    private static void goneAndSeizedKeepWhatTheyHad() {
        CoveSignals x = goneAndSeized();
        Check.dueAll("gone", Scenes.told(x, 0), 8, 0, 8, 3, 4, 1, 1);
        Check.dueAll("seized", Scenes.told(x, 1), 2, 0, 2, 4, 0, 2, 1);
        x.setCode(1, 15);
        x.setCode(2, -1);
        x.pass(60);
        Check.dueAll("gone still", Scenes.told(x, 0), 8, 0, 8, 3, 4, 1, 1);
        Check.dueAll("seized still", Scenes.told(x, 1), 2, 0, 2, 4, 0, 2, 1);
    }

    private static void goneAndSeizedDoNothingMore() {
        CoveSignals x = goneAndSeized();
        Check.due("boats at sea at 8", x.place(8, 3), 0);
        Check.due("boats at sea at 2", x.place(2, 3), 0);
        Check.due("boats at sea led by 1", x.code(1, 3), 0);
        Check.due("boats at sea led by 2", x.code(2, 3), 0);
        Check.due("at sea", x.count(4), 0);
        x.setRoom(8, 30);
        x.setRoom(2, 30);
        x.watchman(8, 8, 3);
        Check.due("nothing more is unloaded", x.pass(60), 0);
        Check.due("nor seized", x.about(1, 4), 0);
        Check.due("bales seized", x.count(8), 6);
        Check.due("seized", x.count(6), 1);
        Check.due("gone", x.count(5), 1);
        Check.illegalState(x, "send the gone one", () -> x.send(0, 3));
        Check.illegalState(x, "send the seized one", () -> x.send(1, 3));
        Check.illegalState(x, "advise the gone one", () -> x.advise(0));
        Check.illegalState(x, "advise the seized one", () -> x.advise(1));
        Check.due("until the gone one", x.until(0), 0);
        Check.due("until the seized one", x.until(1), -1);
    }

    private static void onlyThoseAtSeaCountAsLed() {
        CoveSignals x = new CoveSignals();
        x.setRoom(8, 4);
        x.setCode(7, 8);
        x.lantern(9);
        x.setShow(0, 0, 7);
        x.boat(9, 4);
        x.boat(9, 4);
        x.boat(9, 4);
        Check.due("led by it, ahead of the hour", x.code(7, 3), 0);
        x.pass(1);
        Check.due("three are led by it", x.code(7, 3), 3);
        Check.due("three at sea at 8", x.place(8, 3), 3);
        x.pass(1);
        Check.due("the first is gone", x.code(7, 3), 2);
        Check.due("two at sea at 8", x.place(8, 3), 2);
        x.watchman(8, 8, 0);
        x.pass(1);
        Check.due("the second is seized", x.code(7, 3), 1);
        Check.due("one at sea at 8", x.place(8, 3), 1);
        x.send(2, 8);
        Check.due("the third is sent", x.code(7, 3), 0);
        Check.due("at sea at 8 still", x.place(8, 3), 1);
    }
}
