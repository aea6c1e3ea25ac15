/**
 * Snow clearing contracts: streets, plows and their routes, salt, weather, what-if questions,
 * a weather text, and undo. README.md tells how to use it.
 *
 * <p>All objects and arrays are made by the constructor and used again by every call, because all
 * calls of one run share one room of memory.
 */
public final class SnowRounds {
    /** There is no such thing. */
    public static final int NONE = -1;

    private static final int MAX_STREETS = 20;
    private static final int MAX_PLOWS = 3;
    private static final int MAX_STOPS = 12;
    private static final int PRIORITIES = 3;
    private static final int MAX_STORE = 100000;
    private static final int MAX_HOURS = 2000;
    private static final int MAX_TEMPERATURE = 300;
    private static final int MAX_SNOW = 100;
    private static final int MAX_SAVED = 4;
    private static final int MAX_TEXT = 150;

    /** 150 bytes hold 37 items of four bytes and the beginning of one more. */
    private static final int MAX_ITEMS = 38;

    private static final int LAST_NUMBER = 9;
    private static final int LAST_OF_STREET = 8;
    private static final int LAST_OF_PLOW = 7;
    private static final int LAST_OF_TERMS = 3;

    private final Contract contract;
    private final Contract trial;
    private final SavedStates savedStates;
    private final WeatherText text;

    public SnowRounds() {
        contract = new Contract();
        trial = new Contract();
        savedStates = new SavedStates();
        text = new WeatherText();
    }

    public int addStreet(int length, int priority)
            throws IllegalArgumentException, IllegalStateException {
        checkArgument(length, 10, 2000);
        checkArgument(priority, 0, PRIORITIES - 1);
        if (contract.streetCount >= MAX_STREETS) {
            throw new IllegalStateException("there are 20 streets");
        }
        savedStates.save(contract);
        contract.streets[contract.streetCount].begin(length, priority);
        contract.streetCount++;
        return contract.streetCount - 1;
    }

    public int addPlow(int speed, int capacity)
            throws IllegalArgumentException, IllegalStateException {
        checkArgument(speed, 100, 5000);
        checkArgument(capacity, 0, 5000);
        if (contract.plowCount >= MAX_PLOWS) {
            throw new IllegalStateException("there are 3 plows");
        }
        savedStates.save(contract);
        contract.plows[contract.plowCount].begin(speed, capacity);
        contract.plowCount++;
        return contract.plowCount - 1;
    }

    public int addStop(int plow, int street)
            throws IndexOutOfBoundsException, IllegalStateException {
        checkPlow(plow);
        checkStreet(street);
        Plow driver = contract.plows[plow];
        if (driver.stopCount >= MAX_STOPS) {
            throw new IllegalStateException("the route has 12 places");
        }
        savedStates.save(contract);
        driver.route[driver.stopCount] = street;
        driver.stopCount++;
        return driver.stopCount;
    }

    public int clearRoute(int plow) throws IndexOutOfBoundsException {
        checkPlow(plow);
        savedStates.save(contract);
        return contract.plows[plow].forgetRoute();
    }

    public int exchange(int plow, int place)
            throws IndexOutOfBoundsException, IllegalStateException {
        checkPlow(plow);
        Plow driver = contract.plows[plow];
        checkIndex(place, driver.stopCount - 1);
        if (driver.isBusyAtPair(place)) {
            throw new IllegalStateException("the plow has begun one of both places");
        }
        savedStates.save(contract);
        driver.swapWithNext(place);
        return driver.route[place];
    }

    public int setTerms(int priority, int trigger, int limit, int credit)
            throws IndexOutOfBoundsException, IllegalArgumentException {
        checkIndex(priority, PRIORITIES);
        checkArgument(trigger, 1, 200);
        checkArgument(limit, 1, 48);
        checkArgument(credit, 0, 1000);
        savedStates.save(contract);
        Terms changed = contract.terms[priority];
        int previous = changed.trigger;
        changed.trigger = trigger;
        changed.limit = limit;
        changed.credit = credit;
        return previous;
    }

    public int setSpread(int spread) throws IllegalArgumentException {
        checkArgument(spread, 0, 50);
        savedStates.save(contract);
        int previous = contract.spread;
        contract.spread = spread;
        return previous;
    }

    public int deliver(int kilograms) throws IllegalArgumentException, IllegalStateException {
        checkArgument(kilograms, 0, MAX_STORE);
        if (contract.store + kilograms > MAX_STORE) {
            throw new IllegalStateException("the store would have more than 100000 kilograms");
        }
        savedStates.save(contract);
        contract.store += kilograms;
        contract.delivered += kilograms;
        return contract.store;
    }

    public int run(int temperature, int snow, int hours)
            throws IllegalArgumentException, IllegalStateException {
        checkWeather(temperature, snow);
        checkArgument(hours, 0, 100);
        checkHoursToCome(hours);
        savedStates.save(contract);
        return contract.passHours(temperature, snow, hours);
    }

    public int value(int what) throws IllegalArgumentException {
        checkArgument(what, 0, LAST_NUMBER);
        return contract.number(what);
    }

    public int street(int street, int what)
            throws IndexOutOfBoundsException, IllegalArgumentException {
        checkStreet(street);
        checkArgument(what, 0, LAST_OF_STREET);
        return contract.numberOfStreet(contract.streets[street], what);
    }

    public int plow(int plow, int what)
            throws IndexOutOfBoundsException, IllegalArgumentException {
        checkPlow(plow);
        checkArgument(what, 0, LAST_OF_PLOW);
        return contract.plows[plow].number(what);
    }

    public int stop(int plow, int place) throws IndexOutOfBoundsException {
        checkPlow(plow);
        Plow driver = contract.plows[plow];
        checkIndex(place, driver.stopCount);
        return driver.route[place];
    }

    public int terms(int priority, int what)
            throws IndexOutOfBoundsException, IllegalArgumentException {
        checkIndex(priority, PRIORITIES);
        checkArgument(what, 0, LAST_OF_TERMS);
        return contract.terms[priority].number(what);
    }

    public double meanDepth() {
        // A long, because 20 streets of 2000 meters under 200 meters of snow pass the ints.
        long weighted = 0;
        long lengths = 0;
        for (int i = 0; i < contract.streetCount; i++) {
            Street each = contract.streets[i];
            weighted += (long) each.depth * each.length;
            lengths += each.length;
        }
        return lengths == 0 ? 0.0 : (double) weighted / (double) lengths;
    }

    public int creditsIn(int temperature, int snow, int hours) throws IllegalArgumentException {
        checkWeather(temperature, snow);
        checkArgument(hours, 0, 100);
        trial.copyFrom(contract);
        return trial.passHours(temperature, snow, hours);
    }

    public int bestExchange(int plow, int temperature, int snow, int hours)
            throws IndexOutOfBoundsException, IllegalArgumentException {
        checkPlow(plow);
        checkWeather(temperature, snow);
        checkArgument(hours, 0, 50);
        Plow driver = contract.plows[plow];
        trial.copyFrom(contract);
        int least = trial.passHours(temperature, snow, hours);
        int best = NONE;
        for (int place = 0; place < driver.stopCount - 1; place++) {
            if (!driver.isBusyAtPair(place)) {
                trial.copyFrom(contract);
                trial.plows[plow].swapWithNext(place);
                int credits = trial.passHours(temperature, snow, hours);
                if (credits < least) {
                    least = credits;
                    best = place;
                }
            }
        }
        return best;
    }

    public int leastSpeed(int plow, int temperature, int snow, int hours)
            throws IndexOutOfBoundsException, IllegalArgumentException {
        checkPlow(plow);
        checkWeather(temperature, snow);
        checkArgument(hours, 0, 50);
        for (int speed = 100; speed <= 5000; speed += 100) {
            trial.copyFrom(contract);
            trial.plows[plow].speed = speed;
            if (trial.passesWithoutComplaint(temperature, snow, hours)) {
                return speed;
            }
        }
        return NONE;
    }

    public int emptyIn(int temperature, int snow) throws IllegalArgumentException {
        checkWeather(temperature, snow);
        trial.copyFrom(contract);
        int hours = 0;
        while (hours < 200 && trial.store > 0) {
            trial.passHour(temperature, snow);
            hours++;
        }
        return trial.store == 0 ? hours : NONE;
    }

    public int append(int value) throws IllegalArgumentException, IllegalStateException {
        checkArgument(value, 0, 127);
        if (text.length >= MAX_TEXT) {
            throw new IllegalStateException("the text has 150 bytes");
        }
        text.bytes[text.length] = value;
        text.length++;
        return text.length;
    }

    public int clearText() {
        int previous = text.length;
        text.length = 0;
        return previous;
    }

    public int runText() throws IllegalStateException {
        int error = text.readItems();
        if (error != NONE) {
            return -10 - error;
        }
        checkHoursToCome(text.hoursOfItems());
        savedStates.save(contract);
        int credits = 0;
        for (int i = 0; i < text.itemCount; i++) {
            credits += contract.passHours(text.temperatures[i], text.snows[i], text.hours[i]);
        }
        return credits;
    }

    public int undo() throws IllegalStateException {
        if (savedStates.count <= 0) {
            throw new IllegalStateException("there is no saved state");
        }
        savedStates.restore(contract);
        return savedStates.count;
    }

    public long digest() {
        long hash = mix(3307, text.length);
        for (int what = 0; what <= LAST_NUMBER; what++) {
            hash = mix(hash, contract.number(what));
        }
        for (int i = 0; i < contract.streetCount; i++) {
            hash = mixStreet(hash, contract.streets[i]);
        }
        for (int i = 0; i < contract.plowCount; i++) {
            hash = mixPlow(hash, contract.plows[i]);
        }
        for (int priority = 0; priority < PRIORITIES; priority++) {
            hash = mixTerms(hash, contract.terms[priority]);
        }
        return mix(hash, savedStates.count);
    }

    private long mixStreet(long before, Street mixed) {
        long hash = before;
        for (int what = 0; what <= LAST_OF_STREET; what++) {
            hash = mix(hash, contract.numberOfStreet(mixed, what));
        }
        return hash;
    }

    private static long mixPlow(long before, Plow mixed) {
        long hash = before;
        for (int what = 0; what <= LAST_OF_PLOW; what++) {
            hash = mix(hash, mixed.number(what));
        }
        for (int place = 0; place < mixed.stopCount; place++) {
            hash = mix(hash, mixed.route[place]);
        }
        return hash;
    }

    private static long mixTerms(long before, Terms mixed) {
        long hash = before;
        for (int what = 0; what <= LAST_OF_TERMS; what++) {
            hash = mix(hash, mixed.number(what));
        }
        return hash;
    }

    private static long mix(long hash, long added) {
        return 31 * hash + added;
    }

    private static void checkArgument(int given, int least, int most) {
        if (given < least || given > most) {
            throw new IllegalArgumentException("an argument is out of range");
        }
    }

    private static void checkIndex(int index, int count) {
        if (index < 0 || index >= count) {
            throw new IndexOutOfBoundsException("there is no such number");
        }
    }

    private void checkStreet(int number) {
        checkIndex(number, contract.streetCount);
    }

    private void checkPlow(int number) {
        checkIndex(number, contract.plowCount);
    }

    private static void checkWeather(int temperature, int snow) {
        checkArgument(temperature, -MAX_TEMPERATURE, MAX_TEMPERATURE);
        checkArgument(snow, 0, MAX_SNOW);
    }

    private void checkHoursToCome(int hours) {
        if (contract.hours + hours > MAX_HOURS) {
            throw new IllegalStateException("there would be more than 2000 hours");
        }
    }

    /** A street with what lies on it. */
    private static final class Street {
        int length;
        int priority;
        int depth;
        int wetness;
        int ice;
        int waiting;
        int clearings;
        int lastCleared;

        void begin(int newLength, int newPriority) {
            length = newLength;
            priority = newPriority;
            depth = 0;
            wetness = 0;
            ice = 0;
            waiting = 0;
            clearings = 0;
            lastCleared = NONE;
        }

        void copyFrom(Street other) {
            length = other.length;
            priority = other.priority;
            depth = other.depth;
            wetness = other.wetness;
            ice = other.ice;
            waiting = other.waiting;
            clearings = other.clearings;
            lastCleared = other.lastCleared;
        }

        void takeWeather(int temperature, int snow) {
            depth += snow;
            if (temperature > 0) {
                thaw(temperature / 5);
            } else if (temperature < 0) {
                freeze(-temperature / 10 + 1);
            }
        }

        private void thaw(int most) {
            int melted = Math.min(depth, most);
            depth -= melted;
            wetness = Math.min(wetness + 2 * melted, 100);
            ice = Math.max(ice - most, 0);
        }

        private void freeze(int most) {
            int frozen = Math.min(wetness, most);
            wetness -= frozen;
            ice = Math.min(ice + frozen, 100);
        }

        /** Takes the snow away, and of the ice what the salt can for the need that there was. */
        void becomeClear(int hour, int salt, int need) {
            depth = 0;
            if (need > 0) {
                ice -= ice * salt / need;
            }
            clearings++;
            lastCleared = hour;
        }
    }

    /** A plow on its route. While the route is empty, place and progress are 0. */
    private static final class Plow {
        int speed;
        int capacity;
        int load;
        final int[] route = new int[MAX_STOPS];
        int stopCount;
        int place;
        int progress;
        int rounds;
        int meters;

        void begin(int newSpeed, int newCapacity) {
            speed = newSpeed;
            capacity = newCapacity;
            load = 0;
            stopCount = 0;
            place = 0;
            progress = 0;
            rounds = 0;
            meters = 0;
        }

        void copyFrom(Plow other) {
            speed = other.speed;
            capacity = other.capacity;
            load = other.load;
            System.arraycopy(other.route, 0, route, 0, MAX_STOPS);
            stopCount = other.stopCount;
            place = other.place;
            progress = other.progress;
            rounds = other.rounds;
            meters = other.meters;
        }

        int number(int what) {
            switch (what) {
                case 0:
                    return speed;
                case 1:
                    return capacity;
                case 2:
                    return load;
                case 3:
                    return stopCount;
                case 4:
                    return place;
                case 5:
                    return progress;
                case 6:
                    return rounds;
                default:
                    return meters;
            }
        }

        int forgetRoute() {
            int previous = stopCount;
            stopCount = 0;
            place = 0;
            progress = 0;
            return previous;
        }

        boolean isBusyAtPair(int first) {
            return progress > 0 && (place == first || place == first + 1);
        }

        /** The place and the next one must be places of the route. */
        void swapWithNext(int first) {
            int moved = route[first];
            route[first] = route[first + 1];
            route[first + 1] = moved;
        }

        boolean isAtStart() {
            return place == 0 && progress == 0;
        }

        /** Works on the street at the place; answers the meters that are used. */
        int plowOn(int length, int metersLeft) {
            int used = Math.min(metersLeft, length - progress);
            progress += used;
            meters += used;
            return used;
        }

        /** Answers whether the round goes on. */
        boolean goOn() {
            progress = 0;
            place++;
            if (place < stopCount) {
                return true;
            }
            place = 0;
            rounds++;
            return false;
        }
    }

    /** What is agreed for the streets of a priority, and what was complained about them. */
    private static final class Terms {
        int trigger;
        int limit;
        int credit;
        int complaints;

        Terms(int firstTrigger, int firstLimit, int firstCredit) {
            trigger = firstTrigger;
            limit = firstLimit;
            credit = firstCredit;
        }

        void copyFrom(Terms other) {
            trigger = other.trigger;
            limit = other.limit;
            credit = other.credit;
            complaints = other.complaints;
        }

        int number(int what) {
            switch (what) {
                case 0:
                    return trigger;
                case 1:
                    return limit;
                case 2:
                    return credit;
                default:
                    return complaints;
            }
        }
    }

    /** All that undo brings back and that a what-if question tries out. */
    private static final class Contract {
        final Street[] streets = new Street[MAX_STREETS];
        int streetCount;
        final Plow[] plows = new Plow[MAX_PLOWS];
        int plowCount;
        final Terms[] terms = new Terms[PRIORITIES];
        int hours;
        int store = 1000;
        int spread = 10;
        int credits;
        int delivered = 1000;
        int used;

        Contract() {
            for (int i = 0; i < MAX_STREETS; i++) {
                streets[i] = new Street();
            }
            for (int i = 0; i < MAX_PLOWS; i++) {
                plows[i] = new Plow();
            }
            terms[0] = new Terms(20, 3, 30);
            terms[1] = new Terms(40, 6, 20);
            terms[2] = new Terms(60, 12, 10);
        }

        void copyFrom(Contract other) {
            streetCount = other.streetCount;
            for (int i = 0; i < streetCount; i++) {
                streets[i].copyFrom(other.streets[i]);
            }
            plowCount = other.plowCount;
            for (int i = 0; i < plowCount; i++) {
                plows[i].copyFrom(other.plows[i]);
            }
            for (int i = 0; i < PRIORITIES; i++) {
                terms[i].copyFrom(other.terms[i]);
            }
            hours = other.hours;
            store = other.store;
            spread = other.spread;
            credits = other.credits;
            delivered = other.delivered;
            used = other.used;
        }

        int number(int what) {
            switch (what) {
                case 0:
                    return hours;
                case 1:
                    return streetCount;
                case 2:
                    return plowCount;
                case 3:
                    return store;
                case 4:
                    return spread;
                case 5:
                    return complaints();
                case 6:
                    return credits;
                case 7:
                    return dueStreets();
                case 8:
                    return delivered;
                default:
                    return used;
            }
        }

        int numberOfStreet(Street asked, int what) {
            switch (what) {
                case 0:
                    return asked.length;
                case 1:
                    return asked.priority;
                case 2:
                    return asked.depth;
                case 3:
                    return asked.wetness;
                case 4:
                    return asked.ice;
                case 5:
                    return asked.waiting;
                case 6:
                    return isDue(asked) ? 1 : 0;
                case 7:
                    return asked.clearings;
                default:
                    return asked.lastCleared;
            }
        }

        int complaints() {
            int sum = 0;
            for (int i = 0; i < PRIORITIES; i++) {
                sum += terms[i].complaints;
            }
            return sum;
        }

        private int dueStreets() {
            int count = 0;
            for (int i = 0; i < streetCount; i++) {
                if (isDue(streets[i])) {
                    count++;
                }
            }
            return count;
        }

        private boolean isDue(Street asked) {
            return asked.depth >= terms[asked.priority].trigger;
        }

        /** Answers the credits that are paid in these hours. */
        int passHours(int temperature, int snow, int count) {
            int before = credits;
            for (int i = 0; i < count; i++) {
                passHour(temperature, snow);
            }
            return credits - before;
        }

        /** Stops at the first complaint, because one is enough for the answer. */
        boolean passesWithoutComplaint(int temperature, int snow, int count) {
            int before = complaints();
            for (int i = 0; i < count && complaints() == before; i++) {
                passHour(temperature, snow);
            }
            return complaints() == before;
        }

        void passHour(int temperature, int snow) {
            for (int i = 0; i < streetCount; i++) {
                streets[i].takeWeather(temperature, snow);
            }
            for (int i = 0; i < plowCount; i++) {
                if (plows[i].stopCount > 0) {
                    letWork(plows[i]);
                }
            }
            for (int i = 0; i < streetCount; i++) {
                letWait(streets[i]);
            }
            hours++;
        }

        private void letWork(Plow worker) {
            if (worker.isAtStart()) {
                fill(worker);
            }
            int metersLeft = worker.speed;
            boolean inRound = true;
            // An hour ends with the round, so no plow comes to more places than a route can have.
            for (int i = 0; i < MAX_STOPS && inRound && metersLeft > 0; i++) {
                Street here = streets[worker.route[worker.place]];
                if (worker.progress == 0 && !isDue(here)) {
                    inRound = worker.goOn();
                } else {
                    metersLeft -= worker.plowOn(here.length, metersLeft);
                    if (worker.progress == here.length) {
                        clear(here, worker);
                        inRound = worker.goOn();
                    }
                }
            }
        }

        private void fill(Plow worker) {
            int filled = Math.min(worker.capacity - worker.load, store);
            worker.load += filled;
            store -= filled;
        }

        private void clear(Street cleared, Plow worker) {
            int need = (cleared.length * spread + 999) / 1000;
            int salt = Math.min(need, worker.load);
            worker.load -= salt;
            used += salt;
            cleared.becomeClear(hours, salt, need);
        }

        private void letWait(Street waiter) {
            if (!isDue(waiter)) {
                waiter.waiting = 0;
                return;
            }
            Terms agreed = terms[waiter.priority];
            waiter.waiting++;
            if (waiter.waiting > agreed.limit) {
                agreed.complaints++;
                credits += agreed.credit;
            }
        }
    }

    /** The states for undo, the oldest first; their objects are used again. */
    private static final class SavedStates {
        final Contract[] saved = new Contract[MAX_SAVED];
        int count;

        SavedStates() {
            for (int i = 0; i < MAX_SAVED; i++) {
                saved[i] = new Contract();
            }
        }

        void save(Contract current) {
            if (count >= MAX_SAVED) {
                dropOldest();
            }
            saved[count].copyFrom(current);
            count++;
        }

        private void dropOldest() {
            Contract oldest = saved[0];
            for (int i = 1; i < MAX_SAVED; i++) {
                saved[i - 1] = saved[i];
            }
            saved[MAX_SAVED - 1] = oldest;
            count = MAX_SAVED - 1;
        }

        /** There must be a saved state. */
        void restore(Contract current) {
            count--;
            current.copyFrom(saved[count]);
        }
    }

    /** The weather text and, when it has been read, its items. */
    private static final class WeatherText {
        /** What stands behind the last byte: no byte. */
        private static final int END = -1;

        final int[] bytes = new int[MAX_TEXT];
        int length;
        final int[] temperatures = new int[MAX_ITEMS];
        final int[] snows = new int[MAX_ITEMS];
        final int[] hours = new int[MAX_ITEMS];
        int itemCount;
        private int at;
        private int error;

        /** Answers the syntax error position, or NONE. */
        int readItems() {
            itemCount = 0;
            at = 0;
            error = NONE;
            while (itemCount < MAX_ITEMS && at < length && error == NONE) {
                readItem();
                itemCount++;
            }
            return error;
        }

        int hoursOfItems() {
            int sum = 0;
            for (int i = 0; i < itemCount; i++) {
                sum += hours[i];
            }
            return sum;
        }

        private void readItem() {
            temperatures[itemCount] = readTemperature();
            expect(',');
            snows[itemCount] = readNumber(3, 0, MAX_SNOW);
            hours[itemCount] = 1;
            if (here() == 'x') {
                at++;
                hours[itemCount] = readNumber(2, 1, 99);
            }
            expect(';');
        }

        private int readTemperature() {
            if (here() == '-') {
                at++;
                return -readNumber(3, 0, MAX_TEMPERATURE);
            }
            return readNumber(3, 0, MAX_TEMPERATURE);
        }

        private int readNumber(int maxDigits, int least, int most) {
            int first = at;
            int number = 0;
            for (int i = 0; i < maxDigits && isDigitHere(); i++) {
                number = 10 * number + here() - '0';
                at++;
            }
            if (at == first || isDigitHere()) {
                fail(at);
            } else if (number < least || number > most) {
                fail(first);
            }
            return number;
        }

        private void expect(int wanted) {
            if (here() == wanted) {
                at++;
            } else {
                fail(at);
            }
        }

        /** Only the first error counts; what is read behind it is never used. */
        private void fail(int position) {
            if (error == NONE) {
                error = position;
            }
        }

        private boolean isDigitHere() {
            return here() >= '0' && here() <= '9';
        }

        private int here() {
            return at < length ? bytes[at] : END;
        }
    }
}
