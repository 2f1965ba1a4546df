/**
 * Freight that is put together: consignments that wait in a hall, vehicles, loads, trips, offers
 * for the way back, and commands as texts. The document in ../shared/DOC.md tells what each call
 * promises.
 */
public final class FreightSplits {
    public static final int INVALID_ARGUMENT = -1000001;
    public static final int NOT_POSSIBLE = -1000002;
    public static final int LIMIT_REACHED = -1000003;
    public static final int NOT_FOUND = -1000004;

    private static final int MOST_CONSIGNMENTS = 16;
    private static final int MOST_VEHICLES = 4;
    private static final int MOST_OFFERS = 10;
    private static final int MOST_STATES = 4;
    private static final int MOST_CHARACTERS = 80;

    private static final int LAST_PLACE = 4;
    private static final int LAST_RULE = 2;
    private static final int LAST_TIME = 9000;
    private static final int LATEST_HOUR = 9999;
    private static final int MOST_SIZE = 99;
    private static final int MOST_WORTH = 999;
    private static final int MOST_ROOM = 200;
    private static final int MOST_HOURS = 99;

    private static final int WAY_SETTING = 0;
    private static final int STAY_SETTING = 1;
    private static final int EARLY_SETTING = 2;
    private static final int SETTINGS = 3;
    private static final int FIRST_SETTING_COUNT = 20;

    // Where a consignment is, in the numbers of consignmentOf; GONE is for one that was joined.
    private static final int IN_HALL = 0;
    private static final int LOADED = 1;
    private static final int UNDER_WAY = 2;
    private static final int IN_TIME = 3;
    private static final int LOST = 4;
    private static final int GONE = 5;

    // Where a vehicle is, in the numbers of vehicleOf; in the hall it is IN_HALL, too.
    private static final int WAY_THERE = 1;
    private static final int WAY_BACK = 2;

    private static final int NONE = -1;
    private static final int NO_PLACE = 0;

    // Keeps what a trip would bring above the errors, even if much is paid for being early.
    private static final int EARNING_BASE = 4000000;

    private static final int LOAD = 0;
    private static final int FILL = 1;
    private static final int GO = 2;
    private static final int SPLIT = 3;
    private static final int JOIN = 4;
    private static final int OFFER = 5;
    private static final int PASS = 6;
    private static final int VERBS = 7;
    private static final int MOST_NUMBERS = 5;
    private static final int MOST_DIGITS = 3;

    private static final int NO_FAULT = 0;
    private static final int FAULT_OF_FORM = 1;
    private static final int FAULT_OF_ARGUMENT = 2;
    private static final int FAULT_OF_STATE = 3;

    private final Hall hall;
    private final Hall trial;
    private final History history;
    private final Script script;
    private int faultPosition;
    private int faultReason;

    public FreightSplits() {
        hall = new Hall();
        trial = new Hall();
        history = new History();
        script = new Script();
    }

    // ---- consignments

    public int consign(int place, int size, int weight, int from, int to, int worth) {
        if (!isWithin(place, 1, LAST_PLACE) || !isWithin(size, 1, MOST_SIZE)
                || !isWithin(weight, 1, MOST_SIZE) || !isWithin(from, 0, LATEST_HOUR)
                || !isWithin(to, from, LATEST_HOUR) || !isWithin(worth, 0, MOST_WORTH)) {
            return INVALID_ARGUMENT;
        }
        history.prepare(hall);
        return changed(hall.makeConsignment(place, size, weight, from, to, worth));
    }

    public int split(int consignment, int size, int weight) {
        history.prepare(hall);
        return changed(hall.splitOff(consignment, size, weight));
    }

    public int join(int one, int other) {
        history.prepare(hall);
        return changed(hall.joinParts(one, other));
    }

    // ---- vehicles, loads, trips

    public int vehicle(int room, int weight) {
        history.prepare(hall);
        return changed(hall.addVehicle(room, weight));
    }

    public int load(int consignment, int vehicle) {
        history.prepare(hall);
        return changed(hall.putInto(consignment, vehicle));
    }

    public int unload(int consignment) {
        history.prepare(hall);
        return changed(hall.takeOut(consignment));
    }

    public int fill(int vehicle, int place, int rule) {
        history.prepare(hall);
        int loaded = changed(hall.loadByRule(vehicle, place, rule));
        return loaded < 0 ? loaded : Integer.bitCount(loaded);
    }

    public int depart(int vehicle) {
        history.prepare(hall);
        return changed(hall.sendOff(vehicle));
    }

    public int offer(int place, int size, int weight, int price, int hours) {
        history.prepare(hall);
        return changed(hall.makeOffer(place, size, weight, price, hours));
    }

    public int pass(int hours) {
        history.prepare(hall);
        return changed(hall.letPass(hours));
    }

    public int set(int what, int value) {
        history.prepare(hall);
        return changed(hall.changeSetting(what, value));
    }

    // ---- what there is

    public int consignmentOf(int consignment, int what) {
        Consignment freight = hall.consignmentAt(consignment);
        if (freight == null) {
            return INVALID_ARGUMENT;
        }
        switch (what) {
            case 0: return freight.place;
            case 1: return freight.size;
            case 2: return freight.weight;
            case 3: return freight.from;
            case 4: return freight.to;
            case 5: return freight.worth;
            case 6: return freight.state;
            case 7: return freight.vehicle == NONE ? NOT_FOUND : freight.vehicle;
            case 8: return freight.delivered == NONE ? NOT_FOUND : freight.delivered;
            case 9: return hall.partsOf(freight.whole);
            case 10: return (freight.isInHall() ? hall.time : freight.departed) - freight.since;
            default: return INVALID_ARGUMENT;
        }
    }

    public int vehicleOf(int vehicle, int what) {
        Vehicle carrier = hall.vehicleAt(vehicle);
        if (carrier == null) {
            return INVALID_ARGUMENT;
        }
        switch (what) {
            case 0: return carrier.room;
            case 1: return carrier.bound;
            case 2: return carrier.state;
            case 3: return hall.loadSize(carrier);
            case 4: return hall.loadWeight(carrier);
            case 5: return hall.loadSet(carrier);
            case 6: return placeOf(carrier);
            case 7: return carrier.state == IN_HALL ? NOT_FOUND : carrier.hour;
            case 8: return carrier.brings;
            case 9: return carrier.trips;
            default: return INVALID_ARGUMENT;
        }
    }

    public int offerOf(int index, int what) {
        if (index < 0 || !isWithin(what, 0, 4)) {
            return INVALID_ARGUMENT;
        }
        if (index >= hall.offerCount || index >= MOST_OFFERS) {
            return NOT_FOUND;
        }
        Offer offer = hall.offers[index];
        switch (what) {
            case 0: return offer.place;
            case 1: return offer.size;
            case 2: return offer.weight;
            case 3: return offer.price;
            default: return offer.until;
        }
    }

    public int count(int what) {
        switch (what) {
            case 0: return hall.made;
            case 1: return hall.vehicleCount;
            case 2: return hall.time;
            case 3: return hall.hallSet();
            case 4: return hall.howManyAre(IN_TIME);
            case 5: return hall.howManyAre(LOST);
            case 6: return hall.earned;
            case 7: return hall.offersEarned;
            case 8: return hall.feesPaid;
            case 9: return hall.earlyPaid;
            case 10: return hall.offerCount;
            case 11: return history.kept;
            case 12: return script.length;
            default: return settingCount(what);
        }
    }

    // ---- what would be

    public int wouldFill(int vehicle, int place, int rule) {
        trial.copyFrom(hall);
        return trial.loadByRule(vehicle, place, rule);
    }

    public int wouldEarn(int vehicle) {
        trial.copyFrom(hall);
        int arriving = trial.sendOff(vehicle);
        Vehicle carrier = trial.vehicleAt(vehicle);
        if (arriving < 0 || carrier == null) {
            return arriving;
        }
        // The trial leaps to the arrival, as nothing else happens on the way.
        trial.time = arriving;
        trial.deliverLoad(carrier);
        trial.takeOffers(carrier);
        int worths = trial.earned - hall.earned;
        int early = trial.earlyPaid - hall.earlyPaid;
        return EARNING_BASE + worths - early + carrier.brings;
    }

    public int hopeless() {
        return hall.hopelessSet();
    }

    public int undo() {
        return history.restore(hall);
    }

    // ---- texts

    public int type(int character) {
        if (!isWithin(character, 32, 126)) {
            return INVALID_ARGUMENT;
        }
        return script.append((char) character);
    }

    public int clearText() {
        int length = script.length;
        script.length = 0;
        return length;
    }

    public int fault(int what) {
        if (!isWithin(what, 0, 1)) {
            return INVALID_ARGUMENT;
        }
        tryText();
        if (faultReason == NO_FAULT) {
            return NOT_FOUND;
        }
        return what == 0 ? faultPosition : faultReason;
    }

    public int play() {
        int commands = tryText();
        if (faultReason != NO_FAULT) {
            return NOT_POSSIBLE;
        }
        history.prepare(hall);
        hall.copyFrom(trial);
        return changed(commands);
    }

    private static boolean isWithin(int value, int least, int most) {
        return value >= least && value <= most;
    }

    /** Keeps the state that was prepared if the answer is no error; answers are never below 0. */
    private int changed(int answer) {
        if (answer >= 0) {
            history.keep();
        }
        return answer;
    }

    private int placeOf(Vehicle carrier) {
        int place = carrier.state == IN_HALL ? hall.loadPlace(carrier) : carrier.place;
        return place == NO_PLACE ? NOT_FOUND : place;
    }

    private int settingCount(int what) {
        if (!isWithin(what, FIRST_SETTING_COUNT, FIRST_SETTING_COUNT + SETTINGS - 1)) {
            return INVALID_ARGUMENT;
        }
        return hall.settings[what - FIRST_SETTING_COUNT];
    }

    /** Does the text in the trial, up to its fault; returns how many commands were done. */
    private int tryText() {
        trial.copyFrom(hall);
        faultReason = NO_FAULT;
        int start = 0;
        for (int done = 0; done < MOST_CHARACTERS; done++) {
            if (start >= script.length) {
                return done;
            }
            faultPosition = start;
            faultReason = script.readCommand(start) ? reasonOf(perform()) : FAULT_OF_FORM;
            if (faultReason != NO_FAULT) {
                return done;
            }
            start = script.next;
        }
        return MOST_CHARACTERS;
    }

    private static int reasonOf(int answer) {
        if (answer >= 0) {
            return NO_FAULT;
        }
        return answer == INVALID_ARGUMENT ? FAULT_OF_ARGUMENT : FAULT_OF_STATE;
    }

    /** Does the command that was read last, in the trial. */
    private int perform() {
        int[] with = script.numbers;
        switch (script.verb) {
            case LOAD: return trial.putInto(with[0], with[1]);
            case FILL: return trial.loadByRule(with[0], with[1], with[2]);
            case GO: return trial.sendOff(with[0]);
            case SPLIT: return trial.splitOff(with[0], with[1], with[2]);
            case JOIN: return trial.joinParts(with[0], with[1]);
            case OFFER: return trial.makeOffer(with[0], with[1], with[2], with[3], with[4]);
            case PASS: return trial.letPass(with[0]);
            default: return INVALID_ARGUMENT;
        }
    }

    private static final class Consignment {
        final int number;
        int place;
        int size;
        int weight;
        int from;
        int to;
        int worth;
        int state;
        int since;
        int whole;
        int vehicle;
        int departed;
        int delivered;

        Consignment(int number) {
            this.number = number;
        }

        void copyFrom(Consignment other) {
            copyFreight(other);
            state = other.state;
            vehicle = other.vehicle;
            departed = other.departed;
            delivered = other.delivered;
        }

        void copyFreight(Consignment other) {
            place = other.place;
            size = other.size;
            weight = other.weight;
            from = other.from;
            to = other.to;
            worth = other.worth;
            since = other.since;
            whole = other.whole;
        }

        void startInHall() {
            state = IN_HALL;
            vehicle = NONE;
            departed = NONE;
            delivered = NONE;
        }

        boolean isInHall() {
            return state == IN_HALL || state == LOADED;
        }

        boolean isIn(Vehicle carrier) {
            return vehicle == carrier.number && (state == LOADED || state == UNDER_WAY);
        }

        boolean comesAheadOf(Consignment other, int rule) {
            switch (rule) {
                case 0: return to < other.to;
                case 1: return worth > other.worth;
                default: return worth * other.size > other.worth * size;
            }
        }
    }

    private static final class Vehicle {
        final int number;
        int room;
        int bound;
        int state;
        int place;
        int way;
        int hour;
        int brings;
        int trips;

        Vehicle(int number) {
            this.number = number;
        }

        void copyFrom(Vehicle other) {
            room = other.room;
            bound = other.bound;
            state = other.state;
            place = other.place;
            way = other.way;
            hour = other.hour;
            brings = other.brings;
            trips = other.trips;
        }
    }

    private static final class Offer {
        int place;
        int size;
        int weight;
        int price;
        int until;

        void copyFrom(Offer other) {
            place = other.place;
            size = other.size;
            weight = other.weight;
            price = other.price;
            until = other.until;
        }
    }

    /** Everything but the text and the history: one of these is a state. */
    private static final class Hall {
        final Consignment[] consignments = new Consignment[MOST_CONSIGNMENTS];
        final Vehicle[] vehicles = new Vehicle[MOST_VEHICLES];
        final Offer[] offers = new Offer[MOST_OFFERS];
        final int[] settings = {3, 8, 1};
        int made;
        int vehicleCount;
        int offerCount;
        int time;
        int earned;
        int offersEarned;
        int feesPaid;
        int earlyPaid;

        Hall() {
            for (int i = 0; i < MOST_CONSIGNMENTS; i++) {
                consignments[i] = new Consignment(i);
            }
            for (int i = 0; i < MOST_VEHICLES; i++) {
                vehicles[i] = new Vehicle(i);
            }
            for (int i = 0; i < MOST_OFFERS; i++) {
                offers[i] = new Offer();
            }
        }

        void copyFrom(Hall other) {
            made = other.made;
            vehicleCount = other.vehicleCount;
            offerCount = other.offerCount;
            time = other.time;
            earned = other.earned;
            offersEarned = other.offersEarned;
            feesPaid = other.feesPaid;
            earlyPaid = other.earlyPaid;
            System.arraycopy(other.settings, 0, settings, 0, SETTINGS);
            for (int i = 0; i < made; i++) {
                consignments[i].copyFrom(other.consignments[i]);
            }
            for (int i = 0; i < vehicleCount; i++) {
                vehicles[i].copyFrom(other.vehicles[i]);
            }
            for (int i = 0; i < offerCount; i++) {
                offers[i].copyFrom(other.offers[i]);
            }
        }

        /** The consignment of that number, or null if there is none or it is gone. */
        Consignment consignmentAt(int number) {
            if (number < 0 || number >= made || number >= MOST_CONSIGNMENTS) {
                return null;
            }
            return consignments[number].state == GONE ? null : consignments[number];
        }

        /** The vehicle of that number, or null if there is none. */
        Vehicle vehicleAt(int number) {
            if (number < 0 || number >= vehicleCount || number >= MOST_VEHICLES) {
                return null;
            }
            return vehicles[number];
        }

        int makeConsignment(int place, int size, int weight, int from, int to, int worth) {
            if (made >= MOST_CONSIGNMENTS) {
                return LIMIT_REACHED;
            }
            Consignment freight = consignments[made];
            freight.place = place;
            freight.size = size;
            freight.weight = weight;
            freight.from = from;
            freight.to = to;
            freight.worth = worth;
            freight.since = time;
            freight.whole = freight.number;
            freight.startInHall();
            made++;
            return freight.number;
        }

        int splitOff(int consignment, int size, int weight) {
            Consignment freight = consignmentAt(consignment);
            if (freight == null || !isWithin(size, 1, freight.size - 1)
                    || !isWithin(weight, 1, freight.weight - 1)) {
                return INVALID_ARGUMENT;
            }
            if (freight.state != IN_HALL) {
                return NOT_POSSIBLE;
            }
            if (made >= MOST_CONSIGNMENTS) {
                return LIMIT_REACHED;
            }
            Consignment part = consignments[made];
            part.copyFreight(freight);
            part.startInHall();
            part.size = size;
            part.weight = weight;
            // The size is 2 or more here, as a part of it is 1 or more and less than it.
            part.worth = freight.worth * size / freight.size;
            freight.size -= size;
            freight.weight -= weight;
            freight.worth -= part.worth;
            made++;
            return part.number;
        }

        int joinParts(int one, int other) {
            Consignment left = consignmentAt(Math.min(one, other));
            Consignment gone = consignmentAt(Math.max(one, other));
            if (left == null || gone == null || one == other) {
                return INVALID_ARGUMENT;
            }
            if (left.whole != gone.whole || left.state != IN_HALL || gone.state != IN_HALL) {
                return NOT_POSSIBLE;
            }
            left.size += gone.size;
            left.weight += gone.weight;
            left.worth += gone.worth;
            left.since = Math.min(left.since, gone.since);
            gone.state = GONE;
            return left.number;
        }

        int addVehicle(int room, int weight) {
            if (!isWithin(room, 1, MOST_ROOM) || !isWithin(weight, 1, MOST_ROOM)) {
                return INVALID_ARGUMENT;
            }
            if (vehicleCount >= MOST_VEHICLES) {
                return LIMIT_REACHED;
            }
            Vehicle carrier = vehicles[vehicleCount];
            carrier.room = room;
            carrier.bound = weight;
            carrier.state = IN_HALL;
            carrier.brings = 0;
            carrier.trips = 0;
            vehicleCount++;
            return carrier.number;
        }

        int putInto(int consignment, int vehicle) {
            Consignment freight = consignmentAt(consignment);
            Vehicle carrier = vehicleAt(vehicle);
            if (freight == null || carrier == null) {
                return INVALID_ARGUMENT;
            }
            if (!canTake(carrier, freight)) {
                return NOT_POSSIBLE;
            }
            freight.state = LOADED;
            freight.vehicle = carrier.number;
            return carrier.room - loadSize(carrier);
        }

        int takeOut(int consignment) {
            Consignment freight = consignmentAt(consignment);
            if (freight == null) {
                return INVALID_ARGUMENT;
            }
            if (freight.state != LOADED) {
                return NOT_POSSIBLE;
            }
            freight.state = IN_HALL;
            return freight.vehicle;
        }

        /** Returns the set of what is loaded, or an error. */
        int loadByRule(int vehicle, int place, int rule) {
            Vehicle carrier = vehicleAt(vehicle);
            if (carrier == null || !isWithin(place, 1, LAST_PLACE)
                    || !isWithin(rule, 0, LAST_RULE)) {
                return INVALID_ARGUMENT;
            }
            if (carrier.state != IN_HALL) {
                return NOT_POSSIBLE;
            }
            int loaded = 0;
            int seen = 0;
            for (int i = 0; i < made; i++) {
                Consignment freight = nextByRule(place, rule, seen);
                if (freight == null) {
                    break;
                }
                seen |= 1 << freight.number;
                if (canTake(carrier, freight)) {
                    freight.state = LOADED;
                    freight.vehicle = carrier.number;
                    loaded |= 1 << freight.number;
                }
            }
            return loaded;
        }

        /** The first one by the rule that waits for a place and was not seen, or null. */
        Consignment nextByRule(int place, int rule, int seen) {
            Consignment first = null;
            for (int i = 0; i < made; i++) {
                Consignment freight = consignments[i];
                boolean waits = freight.state == IN_HALL && freight.place == place
                        && (seen >> i & 1) == 0;
                if (waits && (first == null || freight.comesAheadOf(first, rule))) {
                    first = freight;
                }
            }
            return first;
        }

        int sendOff(int vehicle) {
            Vehicle carrier = vehicleAt(vehicle);
            if (carrier == null) {
                return INVALID_ARGUMENT;
            }
            int place = loadPlace(carrier);
            if (carrier.state != IN_HALL || place == NO_PLACE) {
                return NOT_POSSIBLE;
            }
            for (int i = 0; i < made; i++) {
                if (consignments[i].isIn(carrier)) {
                    consignments[i].state = UNDER_WAY;
                    consignments[i].departed = time;
                }
            }
            carrier.state = WAY_THERE;
            carrier.place = place;
            carrier.way = place * settings[WAY_SETTING];
            carrier.hour = time + carrier.way;
            return carrier.hour;
        }

        int makeOffer(int place, int size, int weight, int price, int hours) {
            if (!isWithin(place, 1, LAST_PLACE) || !isWithin(size, 1, MOST_SIZE)
                    || !isWithin(weight, 1, MOST_SIZE) || !isWithin(price, 0, MOST_WORTH)
                    || !isWithin(hours, 0, MOST_HOURS)) {
                return INVALID_ARGUMENT;
            }
            if (offerCount >= MOST_OFFERS) {
                return LIMIT_REACHED;
            }
            Offer offer = offers[offerCount];
            offer.place = place;
            offer.size = size;
            offer.weight = weight;
            offer.price = price;
            offer.until = time + hours;
            offerCount++;
            return offerCount;
        }

        int letPass(int hours) {
            if (!isWithin(hours, 1, MOST_HOURS)) {
                return INVALID_ARGUMENT;
            }
            if (time + hours > LAST_TIME) {
                return LIMIT_REACHED;
            }
            int delivered = 0;
            for (int i = 0; i < hours; i++) {
                time++;
                delivered += moveVehicles();
                dropOldOffers();
                payFees();
            }
            return delivered;
        }

        int changeSetting(int what, int value) {
            if (!isWithin(what, 0, SETTINGS - 1)
                    || !isWithin(value, leastOfSetting(what), mostOfSetting(what))) {
                return INVALID_ARGUMENT;
            }
            int old = settings[what];
            settings[what] = value;
            return old;
        }

        static int leastOfSetting(int what) {
            return what == WAY_SETTING ? 1 : 0;
        }

        static int mostOfSetting(int what) {
            switch (what) {
                case WAY_SETTING: return 24;
                case STAY_SETTING: return 99;
                default: return 20;
            }
        }

        /** One hour's arrivals and returns; returns how many consignments are delivered. */
        int moveVehicles() {
            int delivered = 0;
            for (int i = 0; i < vehicleCount; i++) {
                Vehicle carrier = vehicles[i];
                if (carrier.state == IN_HALL || carrier.hour != time) {
                    continue;
                }
                if (carrier.state == WAY_THERE) {
                    delivered += deliverLoad(carrier);
                    takeOffers(carrier);
                    carrier.state = WAY_BACK;
                    carrier.hour = time + carrier.way;
                } else {
                    comeBack(carrier);
                }
            }
            return delivered;
        }

        int deliverLoad(Vehicle carrier) {
            int delivered = 0;
            for (int i = 0; i < made; i++) {
                Consignment freight = consignments[i];
                if (freight.isIn(carrier)) {
                    freight.delivered = time;
                    freight.state = time > freight.to ? LOST : IN_TIME;
                    if (freight.state == IN_TIME) {
                        earned += freight.worth;
                        earlyPaid += settings[EARLY_SETTING] * Math.max(0, freight.from - time);
                    }
                    delivered++;
                }
            }
            return delivered;
        }

        /** Takes the offers at the vehicle's place, which is without its load then. */
        void takeOffers(Vehicle carrier) {
            int room = carrier.room;
            int bound = carrier.bound;
            for (int taken = 0; taken < MOST_OFFERS; taken++) {
                int best = bestOffer(carrier.place, room, bound);
                if (best == NONE) {
                    break;
                }
                room -= offers[best].size;
                bound -= offers[best].weight;
                carrier.brings += offers[best].price;
                removeOffer(best);
            }
        }

        /** The index of the dearest offer that holds now and has room, or NONE. */
        int bestOffer(int place, int room, int bound) {
            int best = NONE;
            int price = NONE;
            for (int i = 0; i < offerCount; i++) {
                Offer offer = offers[i];
                boolean fits = offer.place == place && offer.until >= time
                        && offer.size <= room && offer.weight <= bound;
                if (fits && offer.price > price) {
                    best = i;
                    price = offer.price;
                }
            }
            return best;
        }

        void comeBack(Vehicle carrier) {
            carrier.state = IN_HALL;
            carrier.trips++;
            offersEarned += carrier.brings;
            carrier.brings = 0;
        }

        void dropOldOffers() {
            for (int i = offerCount - 1; i >= 0; i--) {
                if (offers[i].until < time) {
                    removeOffer(i);
                }
            }
        }

        void removeOffer(int index) {
            if (index < 0 || index >= offerCount || offerCount > MOST_OFFERS) {
                return;
            }
            // The row is used again behind the others, so that no place of the array gets empty.
            Offer removed = offers[index];
            for (int i = index; i < offerCount - 1; i++) {
                offers[i] = offers[i + 1];
            }
            offerCount--;
            offers[offerCount] = removed;
        }

        void payFees() {
            for (int i = 0; i < made; i++) {
                Consignment freight = consignments[i];
                if (freight.isInHall() && time - freight.since > settings[STAY_SETTING]) {
                    feesPaid += (freight.size + 9) / 10;
                }
            }
        }

        boolean canTake(Vehicle carrier, Consignment freight) {
            if (carrier.state != IN_HALL || freight.state != IN_HALL) {
                return false;
            }
            int place = loadPlace(carrier);
            return (place == NO_PLACE || place == freight.place)
                    && loadSize(carrier) + freight.size <= carrier.room
                    && loadWeight(carrier) + freight.weight <= carrier.bound;
        }

        int loadSize(Vehicle carrier) {
            int size = 0;
            for (int i = 0; i < made; i++) {
                size += consignments[i].isIn(carrier) ? consignments[i].size : 0;
            }
            return size;
        }

        int loadWeight(Vehicle carrier) {
            int weight = 0;
            for (int i = 0; i < made; i++) {
                weight += consignments[i].isIn(carrier) ? consignments[i].weight : 0;
            }
            return weight;
        }

        int loadSet(Vehicle carrier) {
            int set = 0;
            for (int i = 0; i < made; i++) {
                set |= consignments[i].isIn(carrier) ? 1 << i : 0;
            }
            return set;
        }

        /** The place that all of the load is for, or NO_PLACE if there is no load. */
        int loadPlace(Vehicle carrier) {
            for (int i = 0; i < made; i++) {
                if (consignments[i].isIn(carrier)) {
                    return consignments[i].place;
                }
            }
            return NO_PLACE;
        }

        int partsOf(int whole) {
            int set = 0;
            for (int i = 0; i < made; i++) {
                boolean isPart = consignments[i].whole == whole && consignments[i].state != GONE;
                set |= isPart ? 1 << i : 0;
            }
            return set;
        }

        int hallSet() {
            int set = 0;
            for (int i = 0; i < made; i++) {
                set |= consignments[i].isInHall() ? 1 << i : 0;
            }
            return set;
        }

        int hopelessSet() {
            int set = 0;
            for (int i = 0; i < made; i++) {
                Consignment freight = consignments[i];
                int arriving = time + freight.place * settings[WAY_SETTING];
                set |= freight.isInHall() && arriving > freight.to ? 1 << i : 0;
            }
            return set;
        }

        int howManyAre(int state) {
            int number = 0;
            for (int i = 0; i < made; i++) {
                number += consignments[i].state == state ? 1 : 0;
            }
            return number;
        }
    }

    /** The states before the latest changes, in a ring with one row more for the next one. */
    private static final class History {
        final Hall[] states = new Hall[MOST_STATES + 1];
        int oldest;
        int kept;

        History() {
            for (int i = 0; i <= MOST_STATES; i++) {
                states[i] = new Hall();
            }
        }

        /** Copies the state ahead of a change; it counts only if keep() follows. */
        void prepare(Hall before) {
            states[(oldest + kept) % (MOST_STATES + 1)].copyFrom(before);
        }

        void keep() {
            if (kept < MOST_STATES) {
                kept++;
            } else {
                oldest = (oldest + 1) % (MOST_STATES + 1);
            }
        }

        int restore(Hall hall) {
            if (kept <= 0) {
                return NOT_POSSIBLE;
            }
            kept--;
            hall.copyFrom(states[(oldest + kept) % (MOST_STATES + 1)]);
            return kept;
        }
    }

    /** The text, and the command that was read from it last. */
    private static final class Script {
        final char[] characters = new char[MOST_CHARACTERS];
        final int[] numbers = new int[MOST_NUMBERS];
        int length;
        int verb;
        int next;

        int append(char character) {
            if (length >= MOST_CHARACTERS) {
                return LIMIT_REACHED;
            }
            characters[length] = character;
            length++;
            return length;
        }

        /** Reads the command at a position; returns false if it is not of the form. */
        boolean readCommand(int start) {
            verb = verbAt(start);
            next = start + wordOf(verb).length();
            int due = numbersOf(verb);
            for (int i = 0; i < due && i < MOST_NUMBERS; i++) {
                if (!readSign(' ')) {
                    return false;
                }
                numbers[i] = readNumber();
                if (numbers[i] < 0) {
                    return false;
                }
            }
            return verb != NONE && readSign(';');
        }

        int verbAt(int start) {
            for (int i = 0; i < VERBS; i++) {
                if (standsAt(wordOf(i), start)) {
                    return i;
                }
            }
            return NONE;
        }

        boolean standsAt(String word, int start) {
            if (start < 0 || start + word.length() > length) {
                return false;
            }
            for (int i = 0; i < word.length(); i++) {
                if (characters[start + i] != word.charAt(i)) {
                    return false;
                }
            }
            return true;
        }

        boolean readSign(char sign) {
            if (next < 0 || next >= length || characters[next] != sign) {
                return false;
            }
            next++;
            return true;
        }

        /** The number of one to three digits at the position, or NONE. */
        int readNumber() {
            int number = NONE;
            for (int i = 0; i < MOST_DIGITS; i++) {
                if (next < 0 || next >= length || !isWithin(characters[next], '0', '9')) {
                    break;
                }
                number = Math.max(number, 0) * 10 + (characters[next] - '0');
                next++;
            }
            return number;
        }

        static String wordOf(int verb) {
            switch (verb) {
                case LOAD: return "load";
                case FILL: return "fill";
                case GO: return "go";
                case SPLIT: return "split";
                case JOIN: return "join";
                case OFFER: return "offer";
                case PASS: return "pass";
                default: return "";
            }
        }

        static int numbersOf(int verb) {
            switch (verb) {
                case LOAD: return 2;
                case FILL: return 3;
                case GO: return 1;
                case SPLIT: return 3;
                case JOIN: return 2;
                case OFFER: return 5;
                case PASS: return 1;
                default: return 0;
            }
        }
    }
}
