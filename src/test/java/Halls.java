/** Halls in which the cases begin; each call makes a new object, with the same calls each time. */
final class Halls {
    // The consignments of busy(); all but LOST and OTHER are parts of one whole. NONE was not made.
    static final int FREE = 0;
    static final int LOADED = 1;
    static final int UNDER_WAY = 2;
    static final int IN_TIME = 3;
    static final int LOST = 4;
    static final int GONE = 5;
    static final int PART = 6;
    static final int OTHER = 7;
    static final int NONE = 8;

    // The vehicles of busy(): two in the hall, one on the way there, one on the way back.
    static final int WITH_LOAD = 0;
    static final int WITHOUT = 1;
    static final int THERE = 2;
    static final int BACK = 3;
    static final int NO_VEHICLE = 4;

    private Halls() {
    }

    static FreightSplits empty() {
        return new FreightSplits();
    }

    /** At the hour 3: vehicle 2 arrives at 5, vehicle 3 is back at 6; each of 20 for 20. */
    static FreightSplits busy() {
        FreightSplits x = new FreightSplits();
        x.consign(1, 30, 30, 0, 90, 100);
        x.split(FREE, 5, 5);
        x.split(FREE, 5, 5);
        x.split(FREE, 5, 5);
        x.consign(1, 5, 5, 0, 2, 50);
        x.split(FREE, 5, 5);
        x.join(FREE, GONE);
        x.split(FREE, 5, 5);
        x.consign(2, 9, 9, 0, 90, 40);
        addVehicles(x, 4, 20, 20);
        x.offer(1, 3, 3, 12, 9);
        x.load(IN_TIME, BACK);
        x.load(LOST, BACK);
        x.depart(BACK);
        x.pass(2);
        x.load(UNDER_WAY, THERE);
        x.depart(THERE);
        x.pass(1);
        x.offer(1, 6, 6, 30, 50);
        x.offer(2, 7, 7, 20, 1);
        x.load(LOADED, WITH_LOAD);
        x.set(2, 2);
        Expect.typed(x, "go 0;pass 1;");
        return x;
    }

    /** All 16 consignments, 4 vehicles, 10 offers, 4 states and 80 characters there can be. */
    static FreightSplits full() {
        FreightSplits x = new FreightSplits();
        for (int i = 0; i < 16; i++) {
            x.consign(1 + i / 4, 10, 5, 0, 20 + i, i);
        }
        addVehicles(x, 4, 40, 20);
        for (int i = 0; i < 10; i++) {
            x.offer(1 + i % 4, 20, 10, 100 + i, 99);
        }
        Expect.typed(x, "pass 1;".repeat(8) + "pass 01;".repeat(3));
        return x;
    }

    /** Four vehicles with a full load each: the consignments 4 v to 4 v + 3 are in v. */
    static FreightSplits fullyLoaded() {
        FreightSplits x = full();
        for (int i = 0; i < 4; i++) {
            x.fill(i, i + 1, 0);
        }
        return x;
    }

    /** At an hour of 99 or more, up to 9000. */
    static FreightSplits at(int hour) {
        FreightSplits x = new FreightSplits();
        passTo(x, hour);
        return x;
    }

    /** At the last hour, with vehicle 0 in the hall, vehicle 1 on the way there. */
    static FreightSplits atTheEnd() {
        FreightSplits x = new FreightSplits();
        addVehicles(x, 2, 20, 20);
        x.consign(2, 5, 5, 0, 9999, 10);
        x.consign(1, 5, 5, 0, 8000, 10);
        passTo(x, 8999);
        x.load(0, 1);
        x.depart(1);
        x.offer(1, 1, 1, 1, 99);
        x.pass(1);
        return x;
    }

    static void passTo(FreightSplits x, int hour) {
        int left = hour - x.count(2);
        while (left > 0) {
            int hours = Math.min(left, 99);
            Expect.due("pass(" + hours + ")", x.pass(hours) >= 0 ? 1 : 0, 1);
            left -= hours;
        }
    }

    static void addVehicles(FreightSplits x, int vehicles, int room, int weight) {
        for (int i = 0; i < vehicles; i++) {
            x.vehicle(room, weight);
        }
    }

    /** Four states in the history, and a hall that each of them tells apart: the hours 1 to 4. */
    static FreightSplits fourStates() {
        FreightSplits x = new FreightSplits();
        for (int i = 0; i < 4; i++) {
            x.pass(1);
        }
        return x;
    }

    /** So many consignments in the hall, each of size and weight 5 for place 1. */
    static FreightSplits made(int consignments) {
        FreightSplits x = new FreightSplits();
        for (int i = 0; i < consignments; i++) {
            x.consign(1, 5, 5, 0, 9, 3);
        }
        return x;
    }

    static FreightSplits retyped(FreightSplits x, String text) {
        x.clearText();
        Expect.typed(x, text);
        return x;
    }

    static FreightSplits typed(String text) {
        FreightSplits x = new FreightSplits();
        Expect.typed(x, text);
        return x;
    }
}
