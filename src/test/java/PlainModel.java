import java.util.ArrayDeque;
import java.util.ArrayList;
import java.util.Collections;
import java.util.Deque;
import java.util.List;

/**
 * The document told once more, without thought of room: every state is a full copy, and the text
 * is read sign by sign by a machine of states. ModelTests compares the program with it.
 */
final class PlainModel {
    private static final class Road {
        int length;
        int priority;
        int depth;
        int wetness;
        int ice;
        int waits;
        int cleared;
        int last = -1;
    }

    private static final class Truck {
        int speed;
        int capacity;
        int load;
        List<Integer> route = new ArrayList<>();
        int place;
        int progress;
        int rounds;
        int meters;
    }

    private static final class World {
        List<Road> roads = new ArrayList<>();
        List<Truck> trucks = new ArrayList<>();
        int[][] terms = {{20, 3, 30, 0}, {40, 6, 20, 0}, {60, 12, 10, 0}};
        int hours;
        int store = 1000;
        int spread = 10;
        int complaints;
        int credits;
        int delivered = 1000;
        int used;

        World copy() {
            World w = new World();
            for (Road r : roads) {
                Road c = new Road();
                c.length = r.length;
                c.priority = r.priority;
                c.depth = r.depth;
                c.wetness = r.wetness;
                c.ice = r.ice;
                c.waits = r.waits;
                c.cleared = r.cleared;
                c.last = r.last;
                w.roads.add(c);
            }
            for (Truck t : trucks) {
                Truck c = new Truck();
                c.speed = t.speed;
                c.capacity = t.capacity;
                c.load = t.load;
                c.route = new ArrayList<>(t.route);
                c.place = t.place;
                c.progress = t.progress;
                c.rounds = t.rounds;
                c.meters = t.meters;
                w.trucks.add(c);
            }
            for (int i = 0; i < 3; i++) {
                w.terms[i] = terms[i].clone();
            }
            w.hours = hours;
            w.store = store;
            w.spread = spread;
            w.complaints = complaints;
            w.credits = credits;
            w.delivered = delivered;
            w.used = used;
            return w;
        }

        boolean due(Road r) {
            return r.depth >= terms[r.priority][0];
        }

        void hour(int t, int n) {
            for (Road r : roads) {
                r.depth += n;
            }
            for (Road r : roads) {
                weather(r, t);
            }
            for (Truck truck : trucks) {
                work(truck);
            }
            for (Road r : roads) {
                if (!due(r)) {
                    r.waits = 0;
                } else if (++r.waits > terms[r.priority][1]) {
                    complaints++;
                    terms[r.priority][3]++;
                    credits += terms[r.priority][2];
                }
            }
            hours++;
        }

        static void weather(Road r, int t) {
            if (t > 0) {
                int melts = r.depth < t / 5 ? r.depth : t / 5;
                r.depth -= melts;
                r.wetness += 2 * melts;
                if (r.wetness > 100) {
                    r.wetness = 100;
                }
                r.ice -= t / 5;
                if (r.ice < 0) {
                    r.ice = 0;
                }
            }
            if (t < 0) {
                int freezes = r.wetness < (-t) / 10 + 1 ? r.wetness : (-t) / 10 + 1;
                r.wetness -= freezes;
                r.ice += freezes;
                if (r.ice > 100) {
                    r.ice = 100;
                }
            }
        }

        void work(Truck t) {
            if (t.route.isEmpty()) {
                return;
            }
            if (t.place == 0 && t.progress == 0) {
                int loads = t.capacity - t.load < store ? t.capacity - t.load : store;
                t.load += loads;
                store -= loads;
            }
            int left = t.speed;
            while (left > 0) {
                Road r = roads.get(t.route.get(t.place));
                boolean goesOn = false;
                if (t.progress == 0 && !due(r)) {
                    goesOn = true;
                } else {
                    // One meter after the other.
                    while (left > 0 && t.progress < r.length) {
                        left--;
                        t.progress++;
                        t.meters++;
                    }
                    if (t.progress == r.length) {
                        clear(t, r);
                        goesOn = true;
                    }
                }
                if (goesOn) {
                    t.progress = 0;
                    if (t.place == t.route.size() - 1) {
                        t.place = 0;
                        t.rounds++;
                        return;
                    }
                    t.place++;
                }
            }
        }

        void clear(Truck t, Road r) {
            r.depth = 0;
            r.cleared++;
            r.last = hours;
            int need = (r.length * spread + 999) / 1000;
            int takes = need < t.load ? need : t.load;
            t.load -= takes;
            used += takes;
            if (need > 0) {
                r.ice = r.ice - r.ice * takes / need;
            }
        }
    }

    private World now = new World();
    private final Deque<World> saved = new ArrayDeque<>();
    private String text = "";

    private void save() {
        saved.addLast(now.copy());
        while (saved.size() > 4) {
            saved.removeFirst();
        }
    }

    private static void argument(boolean fine) {
        if (!fine) {
            throw new IllegalArgumentException();
        }
    }

    private static void index(int i, int size) {
        if (i < 0 || i > size - 1) {
            throw new IndexOutOfBoundsException();
        }
    }

    private static void state(boolean fine) {
        if (!fine) {
            throw new IllegalStateException();
        }
    }

    int addStreet(int length, int priority) {
        argument(10 <= length && length <= 2000 && 0 <= priority && priority <= 2);
        state(now.roads.size() < 20);
        save();
        Road r = new Road();
        r.length = length;
        r.priority = priority;
        now.roads.add(r);
        return now.roads.indexOf(r);
    }

    int addPlow(int speed, int capacity) {
        argument(100 <= speed && speed <= 5000 && 0 <= capacity && capacity <= 5000);
        state(now.trucks.size() < 3);
        save();
        Truck t = new Truck();
        t.speed = speed;
        t.capacity = capacity;
        now.trucks.add(t);
        return now.trucks.indexOf(t);
    }

    int addStop(int plow, int street) {
        index(plow, now.trucks.size());
        index(street, now.roads.size());
        state(now.trucks.get(plow).route.size() < 12);
        save();
        now.trucks.get(plow).route.add(street);
        return now.trucks.get(plow).route.size();
    }

    int clearRoute(int plow) {
        index(plow, now.trucks.size());
        save();
        Truck t = now.trucks.get(plow);
        int had = t.route.size();
        t.route.clear();
        t.place = 0;
        t.progress = 0;
        return had;
    }

    private static boolean canExchange(Truck t, int place) {
        return t.progress == 0 || (t.place != place && t.place != place + 1);
    }

    int exchange(int plow, int place) {
        index(plow, now.trucks.size());
        Truck t = now.trucks.get(plow);
        index(place, t.route.size() - 1);
        state(canExchange(t, place));
        save();
        Collections.swap(t.route, place, place + 1);
        return t.route.get(place);
    }

    int setTerms(int priority, int trigger, int limit, int credit) {
        index(priority, 3);
        argument(1 <= trigger && trigger <= 200 && 1 <= limit && limit <= 48 && 0 <= credit && credit <= 1000);
        save();
        int before = now.terms[priority][0];
        now.terms[priority] = new int[] {trigger, limit, credit, now.terms[priority][3]};
        return before;
    }

    int setSpread(int spread) {
        argument(0 <= spread && spread <= 50);
        save();
        int before = now.spread;
        now.spread = spread;
        return before;
    }

    int deliver(int kilograms) {
        argument(0 <= kilograms && kilograms <= 100000);
        state(now.store + kilograms <= 100000);
        save();
        now.store += kilograms;
        now.delivered += kilograms;
        return now.store;
    }

    private static void weather(int temperature, int snow) {
        argument(-300 <= temperature && temperature <= 300 && 0 <= snow && snow <= 100);
    }

    private static int pass(World w, int temperature, int snow, int hours) {
        int before = w.credits;
        for (int i = 0; i < hours; i++) {
            w.hour(temperature, snow);
        }
        return w.credits - before;
    }

    int run(int temperature, int snow, int hours) {
        weather(temperature, snow);
        argument(0 <= hours && hours <= 100);
        state(now.hours + hours <= 2000);
        save();
        return pass(now, temperature, snow, hours);
    }

    int value(int what) {
        argument(0 <= what && what <= 9);
        int due = 0;
        for (Road r : now.roads) {
            due += now.due(r) ? 1 : 0;
        }
        return new int[] {now.hours, now.roads.size(), now.trucks.size(), now.store, now.spread, now.complaints,
            now.credits, due, now.delivered, now.used}[what];
    }

    int street(int street, int what) {
        index(street, now.roads.size());
        argument(0 <= what && what <= 8);
        Road r = now.roads.get(street);
        return new int[] {r.length, r.priority, r.depth, r.wetness, r.ice, r.waits, now.due(r) ? 1 : 0, r.cleared,
            r.last}[what];
    }

    int plow(int plow, int what) {
        index(plow, now.trucks.size());
        argument(0 <= what && what <= 7);
        Truck t = now.trucks.get(plow);
        return new int[] {t.speed, t.capacity, t.load, t.route.size(), t.place, t.progress, t.rounds, t.meters}[what];
    }

    int stop(int plow, int place) {
        index(plow, now.trucks.size());
        index(place, now.trucks.get(plow).route.size());
        return now.trucks.get(plow).route.get(place);
    }

    int terms(int priority, int what) {
        index(priority, 3);
        argument(0 <= what && what <= 3);
        return now.terms[priority][what];
    }

    double meanDepth() {
        long sum = 0;
        long lengths = 0;
        for (Road r : now.roads) {
            sum += (long) r.depth * (long) r.length;
            lengths += r.length;
        }
        return now.roads.isEmpty() ? 0.0 : (double) sum / (double) lengths;
    }

    int creditsIn(int temperature, int snow, int hours) {
        weather(temperature, snow);
        argument(0 <= hours && hours <= 100);
        return pass(now.copy(), temperature, snow, hours);
    }

    int bestExchange(int plow, int temperature, int snow, int hours) {
        index(plow, now.trucks.size());
        weather(temperature, snow);
        argument(0 <= hours && hours <= 50);
        int without = pass(now.copy(), temperature, snow, hours);
        Truck t = now.trucks.get(plow);
        List<int[]> found = new ArrayList<>();
        for (int place = 0; place + 1 < t.route.size(); place++) {
            World w = now.copy();
            if (canExchange(t, place)) {
                Collections.swap(w.trucks.get(plow).route, place, place + 1);
                found.add(new int[] {pass(w, temperature, snow, hours), place});
            }
        }
        found.sort((a, b) -> a[0] != b[0] ? Integer.compare(a[0], b[0]) : Integer.compare(a[1], b[1]));
        return found.isEmpty() || found.get(0)[0] >= without ? -1 : found.get(0)[1];
    }

    int leastSpeed(int plow, int temperature, int snow, int hours) {
        index(plow, now.trucks.size());
        weather(temperature, snow);
        argument(0 <= hours && hours <= 50);
        int least = -1;
        for (int speed = 5000; speed >= 100; speed -= 100) {
            World w = now.copy();
            w.trucks.get(plow).speed = speed;
            pass(w, temperature, snow, hours);
            if (w.complaints == now.complaints) {
                least = speed;
            }
        }
        return least;
    }

    int emptyIn(int temperature, int snow) {
        weather(temperature, snow);
        World w = now.copy();
        int found = -1;
        for (int hours = 0; hours <= 200; hours++) {
            if (w.store == 0 && found < 0) {
                found = hours;
            }
            w.hour(temperature, snow);
        }
        return found;
    }

    int append(int value) {
        argument(0 <= value && value <= 127);
        state(text.length() < 150);
        text += (char) value;
        return text.length();
    }

    int clearText() {
        int had = text.length();
        text = "";
        return had;
    }

    int runText() {
        List<int[]> items = new ArrayList<>();
        int error = read(items);
        if (error >= 0) {
            return -10 - error;
        }
        int hours = 0;
        for (int[] item : items) {
            hours += item[2];
        }
        state(now.hours + hours <= 2000);
        save();
        int credits = 0;
        for (int[] item : items) {
            credits += pass(now, item[0], item[1], item[2]);
        }
        return credits;
    }

    /**
     * The states: 0 begin of an item, 1 behind "-", 2 in a temperature, 3 behind the comma, 4 in a
     * snowfall, 5 behind "x", 6 in the hours. Answers the error position, or -1.
     */
    private int read(List<int[]> items) {
        int state = 0;
        int sign = 1;
        String digits = "";
        int[] item = {0, 0, 1};
        for (int i = 0; i <= text.length(); i++) {
            int c = i < text.length() ? text.charAt(i) : -1;
            boolean digit = '0' <= c && c <= '9';
            if (digit) {
                digits += (char) c;
                if (digits.length() > (state >= 5 ? 2 : 3)) {
                    return i;
                }
                state = state <= 2 ? 2 : state <= 4 ? 4 : 6;
                continue;
            }
            if (!digits.isEmpty()) {
                int number = Integer.parseInt(digits);
                boolean fits = state == 2 ? number <= 300 : state == 4 ? number <= 100 : number >= 1;
                if (!fits) {
                    return i - digits.length();
                }
                item[state / 2 - 1] = state == 2 ? sign * number : number;
                digits = "";
            }
            if (c == -1 && state == 0) {
                return -1;
            } else if (state == 0 && c == '-') {
                sign = -1;
                state = 1;
            } else if (state == 2 && c == ',') {
                state = 3;
            } else if (state == 4 && c == 'x') {
                state = 5;
            } else if ((state == 4 || state == 6) && c == ';') {
                items.add(item);
                item = new int[] {0, 0, 1};
                sign = 1;
                state = 0;
            } else {
                return i;
            }
        }
        return -1;
    }

    int undo() {
        state(!saved.isEmpty());
        now = saved.removeLast();
        return saved.size();
    }

    long digest() {
        List<Integer> all = new ArrayList<>();
        all.add(text.length());
        for (int what = 0; what <= 9; what++) {
            all.add(value(what));
        }
        for (int i = 0; i < now.roads.size(); i++) {
            for (int what = 0; what <= 8; what++) {
                all.add(street(i, what));
            }
        }
        for (int i = 0; i < now.trucks.size(); i++) {
            for (int what = 0; what <= 7; what++) {
                all.add(plow(i, what));
            }
            all.addAll(now.trucks.get(i).route);
        }
        for (int[] row : now.terms) {
            for (int v : row) {
                all.add(v);
            }
        }
        all.add(saved.size());
        long h = 3307;
        for (int v : all) {
            h = 31 * h + v;
        }
        return h;
    }
}
