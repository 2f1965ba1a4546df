import java.util.ArrayDeque;
import java.util.ArrayList;
import java.util.Comparator;
import java.util.Deque;
import java.util.List;
import java.util.TreeMap;
import java.util.regex.Matcher;
import java.util.regex.Pattern;

/** The document once more, written with the library and without care for speed, to compare with. */
final class PlainModel {
    private static final Pattern COMMAND = Pattern.compile(
            "(load(?: \\d{1,3}){2}|fill(?: \\d{1,3}){3}|go(?: \\d{1,3})|split(?: \\d{1,3}){3}"
            + "|join(?: \\d{1,3}){2}|offer(?: \\d{1,3}){5}|pass(?: \\d{1,3}));");

    /** An error of the document, by its number. */
    private static final class Refused extends Exception {
        private static final long serialVersionUID = 1;
        final int number;

        Refused(int number) {
            super(null, null, false, false);
            this.number = number;
        }
    }

    private record Freight(int place, int size, int weight, int from, int to, int worth, int whole,
            int since, Integer lastVehicle, Integer left, Integer delivered) {
        Freight with(int newSize, int newWeight, int newWorth, int newSince) {
            return new Freight(place, newSize, newWeight, from, to, newWorth, whole, newSince,
                    lastVehicle, left, delivered);
        }

        Freight in(int vehicle) {
            return new Freight(place, size, weight, from, to, worth, whole, since, vehicle, left,
                    delivered);
        }

        Freight leaving(int hour) {
            return new Freight(place, size, weight, from, to, worth, whole, since, lastVehicle, hour,
                    delivered);
        }

        Freight arriving(int hour) {
            return new Freight(place, size, weight, from, to, worth, whole, since, lastVehicle, left,
                    hour);
        }
    }

    private record Bid(int place, int size, int weight, int price, int until) {
    }

    /** A trip: null arrival hour of a vehicle means that it is in the hall. */
    private record Truck(int room, int bound, List<Integer> load, Integer place, Integer arrives,
            Integer back, int brings, int trips) {
        boolean home() {
            return back == null;
        }
    }

    private static final class World {
        TreeMap<Integer, Freight> freight = new TreeMap<>();
        List<Truck> trucks = new ArrayList<>();
        List<Bid> bids = new ArrayList<>();
        int[] settings = {3, 8, 1};
        int made;
        int time;
        int earned;
        int earnedByBids;
        int fees;
        int early;

        World copy() {
            World w = new World();
            w.freight = new TreeMap<>(freight);
            for (Truck t : trucks) {
                w.trucks.add(new Truck(t.room, t.bound, new ArrayList<>(t.load), t.place, t.arrives,
                        t.back, t.brings, t.trips));
            }
            w.bids = new ArrayList<>(bids);
            w.settings = settings.clone();
            w.made = made;
            w.time = time;
            w.earned = earned;
            w.earnedByBids = earnedByBids;
            w.fees = fees;
            w.early = early;
            return w;
        }

        boolean loaded(int n) {
            return trucks.stream().anyMatch(t -> t.load.contains(n));
        }

        boolean inHall(int n) {
            return freight.containsKey(n) && freight.get(n).left == null;
        }

        boolean free(int n) {
            return inHall(n) && !loaded(n);
        }

        int sizeOf(Truck t) {
            return t.load.stream().mapToInt(n -> freight.get(n).size).sum();
        }

        int weightOf(Truck t) {
            return t.load.stream().mapToInt(n -> freight.get(n).weight).sum();
        }

        boolean loadable(int n, Truck t) {
            Freight f = freight.get(n);
            return t.home() && free(n) && sizeOf(t) + f.size <= t.room
                    && weightOf(t) + f.weight <= t.bound
                    && t.load.stream().allMatch(m -> freight.get(m).place == f.place);
        }

        void put(int n, int vehicle) {
            trucks.get(vehicle).load.add(n);
            freight.put(n, freight.get(n).in(vehicle));
        }
    }

    private World world = new World();
    private final Deque<World> history = new ArrayDeque<>();
    private String text = "";

    private interface Call {
        int on(World w) throws Refused;
    }

    private static void must(boolean truth, int otherwise) throws Refused {
        if (!truth) {
            throw new Refused(otherwise);
        }
    }

    private static void range(int value, int least, int most) throws Refused {
        must(least <= value && value <= most, Expect.INVALID);
    }

    private int change(Call call) {
        World next = world.copy();
        try {
            int answer = call.on(next);
            history.push(world);
            while (history.size() > 4) {
                history.removeLast();
            }
            world = next;
            return answer;
        } catch (Refused r) {
            return r.number;
        }
    }

    private int look(Call call) {
        try {
            return call.on(world.copy());
        } catch (Refused r) {
            return r.number;
        }
    }

    private static int setOf(Iterable<Integer> numbers) {
        int set = 0;
        for (int n : numbers) {
            set += 1 << n;
        }
        return set;
    }

    private static Freight known(World w, int n) throws Refused {
        must(w.freight.containsKey(n), Expect.INVALID);
        return w.freight.get(n);
    }

    private static Truck truck(World w, int n) throws Refused {
        must(n >= 0 && n < w.trucks.size(), Expect.INVALID);
        return w.trucks.get(n);
    }

    private static int doSplit(World w, int n, int size, int weight) throws Refused {
        Freight f = known(w, n);
        range(size, 1, f.size - 1);
        range(weight, 1, f.weight - 1);
        must(w.free(n), Expect.NOT_POSSIBLE);
        must(w.made < 16, Expect.LIMIT);
        int worth = f.worth * size / f.size;
        w.freight.put(n, f.with(f.size - size, f.weight - weight, f.worth - worth, f.since));
        w.freight.put(w.made, new Freight(f.place, size, weight, f.from, f.to, worth, f.whole, f.since,
                null, null, null));
        return w.made++;
    }

    private static int doJoin(World w, int one, int other) throws Refused {
        Freight a = known(w, one);
        Freight b = known(w, other);
        must(one != other, Expect.INVALID);
        must(a.whole == b.whole && w.free(one) && w.free(other), Expect.NOT_POSSIBLE);
        Freight low = one < other ? a : b;
        w.freight.remove(Math.max(one, other));
        w.freight.put(Math.min(one, other), low.with(a.size + b.size, a.weight + b.weight,
                a.worth + b.worth, Math.min(a.since, b.since)));
        return Math.min(one, other);
    }

    private static int doLoad(World w, int n, int vehicle) throws Refused {
        known(w, n);
        Truck t = truck(w, vehicle);
        must(w.loadable(n, t), Expect.NOT_POSSIBLE);
        w.put(n, vehicle);
        return t.room - w.sizeOf(t);
    }

    private static List<Integer> doFill(World w, int vehicle, int place, int rule) throws Refused {
        Truck t = truck(w, vehicle);
        range(place, 1, 4);
        range(rule, 0, 2);
        must(t.home(), Expect.NOT_POSSIBLE);
        List<Integer> row = new ArrayList<>(w.freight.keySet());
        row.removeIf(n -> w.freight.get(n).place != place);
        Comparator<Integer> order = Comparator.comparingInt(n -> w.freight.get(n).to);
        if (rule == 1) {
            order = Comparator.comparingInt(n -> -w.freight.get(n).worth);
        } else if (rule == 2) {
            order = (m, n) -> w.freight.get(n).worth * w.freight.get(m).size
                    - w.freight.get(m).worth * w.freight.get(n).size;
        }
        row.sort(order);
        row.removeIf(n -> {
            boolean loads = w.loadable(n, t);
            if (loads) {
                w.put(n, vehicle);
            }
            return !loads;
        });
        return row;
    }

    private static int doDepart(World w, int vehicle) throws Refused {
        Truck t = truck(w, vehicle);
        must(t.home() && !t.load.isEmpty(), Expect.NOT_POSSIBLE);
        int place = w.freight.get(t.load.get(0)).place;
        int way = place * w.settings[0];
        t.load.forEach(n -> w.freight.put(n, w.freight.get(n).leaving(w.time)));
        w.trucks.set(vehicle, new Truck(t.room, t.bound, t.load, place, w.time + way,
                w.time + 2 * way, 0, t.trips));
        return w.time + way;
    }

    private static int doOffer(World w, int place, int size, int weight, int price, int hours)
            throws Refused {
        range(place, 1, 4);
        range(size, 1, 99);
        range(weight, 1, 99);
        range(price, 0, 999);
        range(hours, 0, 99);
        must(w.bids.size() < 10, Expect.LIMIT);
        w.bids.add(new Bid(place, size, weight, price, w.time + hours));
        return w.bids.size();
    }

    private static int doPass(World w, int hours) throws Refused {
        range(hours, 1, 99);
        must(w.time + hours <= 9000, Expect.LIMIT);
        int delivered = 0;
        for (int i = 0; i < hours; i++) {
            w.time++;
            for (int v = 0; v < w.trucks.size(); v++) {
                delivered += move(w, v);
            }
            w.bids.removeIf(b -> b.until < w.time);
            for (int n : w.freight.keySet()) {
                Freight f = w.freight.get(n);
                if (w.inHall(n) && w.time - f.since > w.settings[1]) {
                    w.fees += f.size / 10 + (f.size % 10 == 0 ? 0 : 1);
                }
            }
        }
        return delivered;
    }

    private static int move(World w, int v) {
        Truck t = w.trucks.get(v);
        int delivered = 0;
        if (!t.home() && t.arrives == w.time) {
            for (int n : t.load) {
                Freight f = w.freight.get(n).arriving(w.time);
                w.freight.put(n, f);
                delivered++;
                if (w.time <= f.to) {
                    w.earned += f.worth;
                    w.early += w.time < f.from ? w.settings[2] * (f.from - w.time) : 0;
                }
            }
            w.trucks.set(v, new Truck(t.room, t.bound, new ArrayList<>(), t.place, t.arrives, t.back,
                    takeBids(w, t, w.time), t.trips));
        } else if (!t.home() && t.back == w.time) {
            w.earnedByBids += t.brings;
            w.trucks.set(v, new Truck(t.room, t.bound, t.load, null, null, null, 0, t.trips + 1));
        }
        return delivered;
    }

    private static int takeBids(World w, Truck t, int hour) {
        int size = 0;
        int weight = 0;
        int prices = 0;
        List<Bid> row = new ArrayList<>(w.bids);
        row.sort(Comparator.comparingInt(b -> -b.price));
        // What has no room once has none later on, so that one look at each in order is enough.
        for (Bid b : row) {
            if (b.place == t.place && b.until >= hour && size + b.size <= t.room
                    && weight + b.weight <= t.bound) {
                size += b.size;
                weight += b.weight;
                prices += b.price;
                for (int i = 0; i < w.bids.size(); i++) {
                    if (w.bids.get(i) == b) {
                        w.bids.remove(i);
                        break;
                    }
                }
            }
        }
        return prices;
    }

    int consign(int place, int size, int weight, int from, int to, int worth) {
        return change(w -> {
            range(place, 1, 4);
            range(size, 1, 99);
            range(weight, 1, 99);
            range(from, 0, 9999);
            range(to, from, 9999);
            range(worth, 0, 999);
            must(w.made < 16, Expect.LIMIT);
            w.freight.put(w.made, new Freight(place, size, weight, from, to, worth, w.made, w.time,
                    null, null, null));
            return w.made++;
        });
    }

    int split(int n, int size, int weight) {
        return change(w -> doSplit(w, n, size, weight));
    }

    int join(int one, int other) {
        return change(w -> doJoin(w, one, other));
    }

    int vehicle(int room, int weight) {
        return change(w -> {
            range(room, 1, 200);
            range(weight, 1, 200);
            must(w.trucks.size() < 4, Expect.LIMIT);
            w.trucks.add(new Truck(room, weight, new ArrayList<>(), null, null, null, 0, 0));
            return w.trucks.size() - 1;
        });
    }

    int load(int n, int vehicle) {
        return change(w -> doLoad(w, n, vehicle));
    }

    int unload(int n) {
        return change(w -> {
            known(w, n);
            must(w.inHall(n) && w.loaded(n), Expect.NOT_POSSIBLE);
            for (int v = 0; v < w.trucks.size(); v++) {
                if (w.trucks.get(v).load.remove((Integer) n)) {
                    return v;
                }
            }
            throw new IllegalStateException();
        });
    }

    int fill(int vehicle, int place, int rule) {
        return change(w -> doFill(w, vehicle, place, rule).size());
    }

    int depart(int vehicle) {
        return change(w -> doDepart(w, vehicle));
    }

    int offer(int place, int size, int weight, int price, int hours) {
        return change(w -> doOffer(w, place, size, weight, price, hours));
    }

    int pass(int hours) {
        return change(w -> doPass(w, hours));
    }

    int set(int what, int value) {
        return change(w -> {
            range(what, 0, 2);
            range(value, what == 0 ? 1 : 0, new int[] {24, 99, 20}[what]);
            int was = w.settings[what];
            w.settings[what] = value;
            return was;
        });
    }

    int consignmentOf(int n, int what) {
        return look(w -> {
            Freight f = known(w, n);
            range(what, 0, 10);
            must(what != 7 || f.lastVehicle != null, Expect.NOT_FOUND);
            must(what != 8 || f.delivered != null, Expect.NOT_FOUND);
            int where = f.delivered != null ? (f.delivered <= f.to ? 3 : 4)
                    : f.left != null ? 2 : w.loaded(n) ? 1 : 0;
            List<Integer> parts = new ArrayList<>(w.freight.keySet());
            parts.removeIf(m -> w.freight.get(m).whole != f.whole);
            int stayed = (f.left == null ? w.time : f.left) - f.since;
            return new int[] {f.place, f.size, f.weight, f.from, f.to, f.worth, where,
                f.lastVehicle == null ? 0 : f.lastVehicle, f.delivered == null ? 0 : f.delivered,
                setOf(parts), stayed}[what];
        });
    }

    int vehicleOf(int vehicle, int what) {
        return look(w -> {
            Truck t = truck(w, vehicle);
            range(what, 0, 9);
            must(what != 6 || !t.home() || !t.load.isEmpty(), Expect.NOT_FOUND);
            must(what != 7 || !t.home(), Expect.NOT_FOUND);
            boolean there = !t.home() && w.time < t.arrives;
            int place = !t.home() ? t.place : t.load.isEmpty() ? 0 : w.freight.get(t.load.get(0)).place;
            int next = t.home() ? 0 : there ? t.arrives : t.back;
            return new int[] {t.room, t.bound, t.home() ? 0 : there ? 1 : 2, w.sizeOf(t), w.weightOf(t),
                setOf(t.load), place, next, t.brings, t.trips}[what];
        });
    }

    int offerOf(int index, int what) {
        return look(w -> {
            range(index, 0, Integer.MAX_VALUE);
            range(what, 0, 4);
            must(index < w.bids.size(), Expect.NOT_FOUND);
            Bid b = w.bids.get(index);
            return new int[] {b.place, b.size, b.weight, b.price, b.until}[what];
        });
    }

    int count(int what) {
        return look(w -> {
            must(what >= 0 && what <= 12 || what >= 20 && what <= 22, Expect.INVALID);
            if (what >= 20) {
                return w.settings[what - 20];
            }
            List<Integer> here = new ArrayList<>(w.freight.keySet());
            here.removeIf(n -> !w.inHall(n));
            int inTime = (int) w.freight.values().stream()
                    .filter(f -> f.delivered != null && f.delivered <= f.to).count();
            int lost = (int) w.freight.values().stream()
                    .filter(f -> f.delivered != null && f.delivered > f.to).count();
            return new int[] {w.made, w.trucks.size(), w.time, setOf(here), inTime, lost, w.earned,
                w.earnedByBids, w.fees, w.early, w.bids.size(), history.size(), text.length()}[what];
        });
    }

    int wouldFill(int vehicle, int place, int rule) {
        return look(w -> setOf(doFill(w, vehicle, place, rule)));
    }

    int wouldEarn(int vehicle) {
        return look(w -> {
            Truck t = truck(w, vehicle);
            must(t.home() && !t.load.isEmpty(), Expect.NOT_POSSIBLE);
            int arrives = doDepart(w, vehicle);
            int coins = 4000000;
            for (int n : t.load) {
                Freight f = w.freight.get(n);
                coins += arrives > f.to ? 0 : f.worth - w.settings[2] * Math.max(0, f.from - arrives);
            }
            return coins + takeBids(w, w.trucks.get(vehicle), arrives);
        });
    }

    int hopeless() {
        return look(w -> {
            List<Integer> row = new ArrayList<>(w.freight.keySet());
            row.removeIf(n -> !w.inHall(n)
                    || w.time + w.freight.get(n).place * w.settings[0] <= w.freight.get(n).to);
            return setOf(row);
        });
    }

    int undo() {
        if (history.isEmpty()) {
            return Expect.NOT_POSSIBLE;
        }
        world = history.pop();
        return history.size();
    }

    int type(int character) {
        if (character < 32 || character > 126) {
            return Expect.INVALID;
        }
        if (text.length() == 80) {
            return Expect.LIMIT;
        }
        text += (char) character;
        return text.length();
    }

    int clearText() {
        int length = text.length();
        text = "";
        return length;
    }

    /** Does the text; returns the fault's position and reason, or -1 and the number of commands. */
    private int[] run(World w) {
        Matcher m = COMMAND.matcher(text);
        int at = 0;
        int commands = 0;
        while (at < text.length()) {
            m.region(at, text.length());
            if (!m.lookingAt()) {
                return new int[] {at, 1};
            }
            try {
                perform(w, m.group(1).split(" "));
            } catch (Refused r) {
                return new int[] {at, r.number == Expect.INVALID ? 2 : 3};
            }
            commands++;
            at = m.end();
        }
        return new int[] {-1, commands};
    }

    private static void perform(World w, String[] words) throws Refused {
        int[] n = new int[5];
        for (int i = 1; i < words.length; i++) {
            n[i - 1] = Integer.parseInt(words[i]);
        }
        switch (words[0]) {
            case "load" -> doLoad(w, n[0], n[1]);
            case "fill" -> doFill(w, n[0], n[1], n[2]);
            case "go" -> doDepart(w, n[0]);
            case "split" -> doSplit(w, n[0], n[1], n[2]);
            case "join" -> doJoin(w, n[0], n[1]);
            case "offer" -> doOffer(w, n[0], n[1], n[2], n[3], n[4]);
            default -> doPass(w, n[0]);
        }
    }

    int fault(int what) {
        return look(w -> {
            range(what, 0, 1);
            int[] ended = run(w);
            must(ended[0] >= 0, Expect.NOT_FOUND);
            return ended[what];
        });
    }

    int play() {
        return change(w -> {
            int[] ended = run(w);
            must(ended[0] < 0, Expect.NOT_POSSIBLE);
            return ended[1];
        });
    }
}
