/** The sentences of promise 10 about its arguments, and about what snow and warmth do to streets. */
final class WeatherSentences {
    private static final String MELTS = "If T is above 0, of each street the smaller one of its depth and T / 5"
            + " melts: the depth decreases by it, the wetness increases by twice as much, but not above 100; and"
            + " the ice decreases by T / 5, but not below 0.";
    private static final String FREEZES = "If T is below 0, of each street the smaller one of its wetness and"
            + " (-T) / 10 + 1 freezes: the wetness decreases by it, the ice increases by it, but not above 100.";

    static void runAll() {
        Check.each(
                WeatherSentences::hoursPass, WeatherSentences::runIsUndoable, WeatherSentences::temperatureRange,
                WeatherSentences::snowRange, WeatherSentences::hoursRange, WeatherSentences::runReturnsTheCredits,
                WeatherSentences::runRefusesRanges, WeatherSentences::runRefusesTooManyHours,
                WeatherSentences::theHourCounts, WeatherSentences::snowFalls,
                WeatherSentences::snowMeltsByTemperature, WeatherSentences::noMoreMeltsThanThereIs,
                WeatherSentences::wetnessEndsAtItsTop, WeatherSentences::iceMeltsToNothing,
                WeatherSentences::waterFreezesByTemperature, WeatherSentences::noMoreFreezesThanThereIs,
                WeatherSentences::iceEndsAtItsTop, WeatherSentences::eachStreetHasItsWeather,
                WeatherSentences::divisionIsRoundedDown, WeatherSentences::wetnessAndIceStayInTheirRange);
    }

    private static void hoursPass() {
        Check.sentence(10, "Lets hours pass.");
        SnowRounds x = Towns.oneStreet(100, 0);
        x.run(0, 7, 0);
        Check.equal("no hour", Snapshot.values(x) + Snapshot.street(x, 0),
                " 0 1 0 1000 10 0 0 0 1000 0 100 0 0 0 0 0 0 0 -1");
        x.run(0, 7, 1);
        Check.equal("one hour", x.value(0) + " " + Towns.ground(x, 0), "1 7 0 0");
        x.run(0, 7, 100);
        Check.equal("100 hours", x.value(0) + " " + Towns.ground(x, 0), "101 707 0 0");
    }

    private static void runIsUndoable() {
        Check.sentence(10, "Undoable.");
        SnowRounds x = Towns.oneRoute(500, 250, 8);
        Check.undoable("no hours", x, () -> x.run(40, 60, 0));
        Check.undoable("an hour without weather", x, () -> x.run(0, 0, 1));
        x.run(40, 60, 3);
        Check.undoable("many hours", x, () -> x.run(-40, 30, 100));
        Check.equal("it is hour 3", x.value(0), 3);
    }

    private static void temperatureRange() {
        Check.sentence(10, "`temperature`: -300 to 300");
        SnowRounds x = Towns.oneStreet(100, 2);
        x.run(300, 100, 1);
        Check.equal("300", Towns.ground(x, 0), "40 100 0");
        x.run(-300, 0, 1);
        Check.equal("-300", Towns.ground(x, 0), "40 69 31");
        x.run(299, 0, 1);
        Check.equal("299", Towns.ground(x, 0), "0 100 0");
        x.run(-299, 0, 1);
        Check.equal("-299", Towns.ground(x, 0), "0 70 30");
        Check.refusedWith("temperature", new int[] {-301, 301}, x, Check.ARGUMENT, v -> x.run(v, 0, 1));
    }

    private static void snowRange() {
        Check.sentence(10, "`snow`: 0 to 100");
        SnowRounds x = Towns.oneStreet(100, 2);
        int depth = 0;
        for (int snow : new int[] {0, 1, 99, 100}) {
            x.run(0, snow, 1);
            depth += snow;
            Check.equal("the depth", x.street(0, 2), depth);
        }
        Check.refusedWith("snow", new int[] {-1, 101}, x, Check.ARGUMENT, v -> x.run(0, v, 1));
    }

    private static void hoursRange() {
        Check.sentence(10, "`hours`: 0 to 100");
        SnowRounds x = new SnowRounds();
        int sum = 0;
        for (int hours : new int[] {0, 1, 99, 100}) {
            x.run(0, 0, hours);
            sum += hours;
            Check.equal("the hour", x.value(0), sum);
        }
        Check.refusedWith("hours", new int[] {-1, 101}, x, Check.ARGUMENT, v -> x.run(0, 0, v));
    }

    private static void runReturnsTheCredits() {
        Check.sentence(10, "Returns the credits that are paid in these hours.");
        SnowRounds x = Towns.oneStreet(1000, 1);
        x.setTerms(1, 1, 1, 1000);
        Check.equal("the first hour", x.run(0, 1, 1), 0);
        Check.equal("the next two", x.run(0, 1, 2), 2000);
        Check.equal("of the next two alone", x.run(0, 1, 2), 2000);
        Check.equal("no hours", x.run(0, 1, 0), 0);
        Check.equal("all credits", x.value(6), 4000);
    }

    private static void runRefusesRanges() {
        Check.sentence(10, "Throws `IllegalArgumentException` if an argument is out of range");
        SnowRounds x = Towns.oneStreet(100, 0);
        Check.refused("the temperature alone", x, Check.ARGUMENT, () -> x.run(301, 0, 0));
        Check.refused("the snow alone", x, Check.ARGUMENT, () -> x.run(0, -1, 0));
        Check.refused("the hours alone", x, Check.ARGUMENT, () -> x.run(0, 0, 101));
        Check.refused("all", x, Check.ARGUMENT, () -> x.run(-301, 101, -1));
        Check.equal("none", x.run(300, 100, 100), 97 * 30);
    }

    private static void runRefusesTooManyHours() {
        Check.sentence(10, "Throws `IllegalStateException` if there would be more than 2000 hours");
        SnowRounds x = new SnowRounds();
        Towns.passHundreds(x, 0, 19);
        x.run(0, 0, 1);
        Check.refused("100 hours from 1901", x, Check.STATE, () -> x.run(0, 0, 100));
        x.run(0, 0, 98);
        Check.refused("2 hours from 1999", x, Check.STATE, () -> x.run(0, 0, 2));
        Check.equal("1 hour from 1999", x.run(0, 0, 1), 0);
        Check.equal("the hour", x.value(0), 2000);
        Check.refused("1 hour from 2000", x, Check.STATE, () -> x.run(0, 0, 1));
        Check.refused("100 hours from 2000", x, Check.STATE, () -> x.run(0, 0, 100));
        Check.undoable("no hours from 2000", x, () -> Check.equal("no hours", x.run(0, 0, 0), 0));
        x.undo();
        Check.equal("after undo there is an hour left", x.run(0, 0, 1), 0);
    }

    private static void theHourCounts() {
        Check.sentence(10, "The number of hours increases by 1.");
        SnowRounds x = new SnowRounds();
        for (int hour = 1; hour <= 3; hour++) {
            x.run(0, 0, 1);
            Check.equal("the hour", x.value(0), hour);
        }
        SnowRounds y = Towns.oneRoute(10, 100, 0);
        y.run(0, 20, 3);
        Check.equal("cleared in the hour before it is counted", y.street(0, 8), 2);
    }

    private static void snowFalls() {
        Check.sentence(10, "The depth of each street increases by N.");
        SnowRounds x = Towns.streetsAndPlows(0, 0, 1, 2);
        x.run(0, 7, 2);
        for (int i = 0; i < 3; i++) {
            Check.equal("snow on street " + i, Towns.ground(x, i), "14 0 0");
        }
        x.run(0, 0, 1);
        Check.equal("no snow", Towns.ground(x, 2), "14 0 0");
        SnowRounds y = Towns.oneStreet(2000, 0);
        Towns.passHundreds(y, 100, 20);
        Check.equal("the deepest snow", y.street(0, 2), 200000);
        SnowRounds z = Towns.brimful();
        Check.equal("the snow of street 19", z.street(19, 2), 90);
    }

    private static void snowMeltsByTemperature() {
        Check.sentence(10, MELTS);
        SnowRounds x = Towns.oneStreet(100, 2);
        x.run(0, 30, 1);
        int[] temperatures = {0, 1, 4, 5, 9, 10, 14, 15};
        String[] grounds = {"30 0 0", "30 0 0", "30 0 0", "29 2 0", "28 4 0", "26 8 0", "24 12 0", "21 18 0"};
        for (int i = 0; i < temperatures.length; i++) {
            x.run(temperatures[i], 0, 1);
            Check.equal("after " + temperatures[i] + " tenths", Towns.ground(x, 0), grounds[i]);
        }
        SnowRounds y = Towns.oneStreet(100, 2);
        y.run(50, 15, 1);
        Check.equal("the snow of the hour melts, too", Towns.ground(y, 0), "5 20 0");
    }

    private static void noMoreMeltsThanThereIs() {
        int[] depths = {9, 10, 11, 0};
        String[] grounds = {"0 18 0", "0 20 0", "1 20 0", "0 0 0"};
        for (int i = 0; i < depths.length; i++) {
            SnowRounds x = Towns.oneStreet(100, 2);
            x.run(0, depths[i], 1);
            x.run(50, 0, 1);
            Check.equal("10 of " + depths[i] + " mm", Towns.ground(x, 0), grounds[i]);
        }
    }

    private static void wetnessEndsAtItsTop() {
        SnowRounds x = Towns.oneStreet(100, 2);
        x.run(245, 49, 1);
        Check.equal("98", Towns.ground(x, 0), "0 98 0");
        x.run(5, 1, 1);
        Check.equal("exactly 100", Towns.ground(x, 0), "0 100 0");
        x.run(5, 1, 1);
        Check.equal("no more than 100", Towns.ground(x, 0), "0 100 0");
        x.run(-1, 0, 1);
        Check.equal("99", Towns.ground(x, 0), "0 99 1");
        x.run(5, 1, 1);
        Check.equal("99 and 2", Towns.ground(x, 0), "0 100 0");
        x.run(300, 100, 1);
        Check.equal("much more", Towns.ground(x, 0), "40 100 0");
    }

    /** A street without snow that has the wetness 69 and the ice 31. */
    private static SnowRounds icy() {
        SnowRounds x = Towns.oneStreet(100, 2);
        x.run(250, 50, 1);
        x.run(-300, 0, 1);
        Check.equal("ice is made", Towns.ground(x, 0), "0 69 31");
        return x;
    }

    private static void iceMeltsToNothing() {
        int[] temperatures = {0, 4, 5, 9, 150, 154, 155, 160, 300};
        int[] ice = {31, 31, 30, 30, 1, 1, 0, 0, 0};
        for (int i = 0; i < temperatures.length; i++) {
            SnowRounds x = icy();
            x.run(temperatures[i], 0, 1);
            Check.equal("the ice after " + temperatures[i] + " tenths", Towns.ground(x, 0), "0 69 " + ice[i]);
        }
        SnowRounds y = Towns.oneStreet(100, 2);
        y.run(5, 0, 1);
        Check.equal("no ice stays none", Towns.ground(y, 0), "0 0 0");
    }

    private static void waterFreezesByTemperature() {
        Check.sentence(10, FREEZES);
        int[] temperatures = {0, -1, -9, -10, -19, -20, -299, -300};
        int[] frozen = {0, 1, 1, 2, 2, 3, 30, 31};
        for (int i = 0; i < temperatures.length; i++) {
            SnowRounds x = Towns.oneStreet(100, 2);
            x.run(250, 55, 1);
            x.run(temperatures[i], 0, 1);
            Check.equal("after " + temperatures[i] + " tenths", Towns.ground(x, 0),
                    "5 " + (100 - frozen[i]) + " " + frozen[i]);
        }
    }

    private static void noMoreFreezesThanThereIs() {
        int[] melted = {0, 1, 2, 3};
        String[] grounds = {"0 0 0", "0 0 2", "0 1 3", "0 3 3"};
        for (int i = 0; i < melted.length; i++) {
            SnowRounds x = Towns.oneStreet(100, 2);
            x.run(50, melted[i], 1);
            x.run(-20, 0, 1);
            Check.equal("3 of the wetness " + 2 * melted[i], Towns.ground(x, 0), grounds[i]);
        }
    }

    private static void iceEndsAtItsTop() {
        SnowRounds x = Towns.oneStreet(100, 2);
        x.run(250, 50, 1);
        x.run(-300, 0, 3);
        Check.equal("93", Towns.ground(x, 0), "0 7 93");
        x.run(-60, 0, 1);
        Check.equal("exactly 100", Towns.ground(x, 0), "0 0 100");
        x.run(-300, 0, 1);
        Check.equal("nothing more", Towns.ground(x, 0), "0 0 100");
        SnowRounds y = icy();
        y.run(-300, 0, 3);
        y.run(5, 20, 1);
        Check.equal("ice, and water again", Towns.ground(y, 0), "19 2 99");
        y.run(-300, 0, 1);
        Check.equal("2 freeze, but not above 100", Towns.ground(y, 0), "19 0 100");
    }

    private static void eachStreetHasItsWeather() {
        Check.sentence(10, MELTS);
        SnowRounds x = new SnowRounds();
        x.addStreet(100, 2);
        x.run(0, 30, 1);
        x.addStreet(100, 2);
        x.run(100, 5, 1);
        Check.equal("street 0 has more snow", Towns.ground(x, 0), "15 40 0");
        Check.equal("street 1 has less", Towns.ground(x, 1), "0 10 0");
        Check.sentence(10, FREEZES);
        x.run(-250, 0, 1);
        Check.equal("street 0 is wetter", Towns.ground(x, 0), "15 14 26");
        Check.equal("street 1 is drier", Towns.ground(x, 1), "0 0 10");
    }

    private static void divisionIsRoundedDown() {
        Check.sentence(10, "a / b means division rounded down; all divided numbers are 0 or more.");
        SnowRounds x = Towns.oneStreet(100, 2);
        x.run(4, 10, 1);
        Check.equal("4 / 5", Towns.ground(x, 0), "10 0 0");
        x.run(9, 0, 1);
        Check.equal("9 / 5", Towns.ground(x, 0), "9 2 0");
        x.run(-9, 0, 1);
        Check.equal("9 / 10 + 1", Towns.ground(x, 0), "9 1 1");
        SnowRounds y = Towns.oneRoute(199, 1000, 100);
        y.run(0, 20, 1);
        Check.equal("(1990 + 999) / 1000", y.value(9), 2);
    }

    private static void wetnessAndIceStayInTheirRange() {
        Check.sentence(10, "A street has a length, 10 to 2000 meters, and a priority, 0 to 2; a depth of snow in"
                + " millimeters, a wetness, 0 to 100, an ice, 0 to 100, and a number of hours for which it has been"
                + " waiting, all initially 0.");
        SnowRounds x = Towns.oneStreet(10, 0);
        x.run(300, 100, 100);
        Check.equal("warm and wet", x.street(0, 3) + " " + x.street(0, 4), "100 0");
        x.run(-300, 0, 100);
        Check.equal("cold and dry", x.street(0, 3) + " " + x.street(0, 4), "0 100");
        x.run(300, 0, 100);
        Check.equal("warm again", Towns.ground(x, 0), "0 100 0");
    }

    private WeatherSentences() {
    }
}
