/** Contracts from which tests start. */
final class Towns {
    static SnowRounds oneStreet(int length, int priority) {
        SnowRounds x = new SnowRounds();
        x.addStreet(length, priority);
        return x;
    }

    /** A street of priority 0, and a plow that has it alone on its route. */
    static SnowRounds oneRoute(int length, int speed, int capacity) {
        SnowRounds x = oneStreet(length, 0);
        x.addPlow(speed, capacity);
        x.addStop(0, 0);
        return x;
    }

    /** Streets of these lengths and priority 0, and a plow that goes round them in this order. */
    static SnowRounds lane(int speed, int... lengths) {
        SnowRounds x = new SnowRounds();
        x.addPlow(speed, 0);
        for (int i = 0; i < lengths.length; i++) {
            x.addStreet(lengths[i], 0);
            x.addStop(0, i);
        }
        return x;
    }

    /** Streets of 100 meters with these priorities, and plows of 100 meters an hour without routes. */
    static SnowRounds streetsAndPlows(int plows, int... priorities) {
        SnowRounds x = new SnowRounds();
        for (int priority : priorities) {
            x.addStreet(100, priority);
        }
        for (int i = 0; i < plows; i++) {
            x.addPlow(100, 0);
        }
        return x;
    }

    static void passHundreds(SnowRounds x, int snow, int hundreds) {
        for (int i = 0; i < hundreds; i++) {
            x.run(0, snow, 100);
        }
    }

    static void write(SnowRounds x, String text) {
        for (int i = 0; i < text.length(); i++) {
            x.append(text.charAt(i));
        }
    }

    static SnowRounds withText(String text) {
        SnowRounds x = new SnowRounds();
        write(x, text);
        return x;
    }

    /** Depth, wetness and ice of a street. */
    static String ground(SnowRounds x, int street) {
        return x.street(street, 2) + " " + x.street(street, 3) + " " + x.street(street, 4);
    }

    /** Place, progress and rounds of a plow, and the meters that it has used. */
    static String way(SnowRounds x, int plow) {
        return x.plow(plow, 4) + " " + x.plow(plow, 5) + " " + x.plow(plow, 6) + " " + x.plow(plow, 7);
    }

    /**
     * All that a contract can hold is full: 20 streets, 3 plows, a route of 12 places, the store,
     * 2000 hours, a text of 150 bytes, 4 saved states. Plow 0 has begun its first place, plow 1 the
     * last of its three places, and plow 2 has no route.
     */
    static SnowRounds brimful() {
        SnowRounds x = new SnowRounds();
        for (int i = 0; i < 20; i++) {
            x.addStreet(i == 0 ? 2000 : 50 * (i + 1), i % 3);
        }
        x.addPlow(300, 70);
        x.addPlow(400, 10);
        x.addPlow(500, 30);
        for (int i = 0; i < 12; i++) {
            x.addStop(0, i);
        }
        x.addStop(1, 3);
        x.addStop(1, 3);
        x.addStop(1, 12);
        x.setTerms(1, 30, 2, 17);
        passHundreds(x, 0, 18);
        x.run(60, 8, 99);
        x.run(-70, 0, 2);
        x.run(0, 0, 98);
        x.run(0, 90, 1);
        x.setSpread(13);
        x.deliver(100000 - x.value(3));
        for (int i = 0; i < 36; i++) {
            write(x, "0,1;");
        }
        write(x, "-5,30;");
        return x;
    }

    private Towns() {
    }
}
