import java.util.Random;

/** Runs of 512 calls, the same ones each time, on the class and on the plain model of it. */
public final class RandomRunsTest {
    private static final int RUNS = 1500;
    private static final int CALLS = 512;

    private final Random random;
    private final FreightSplits real = new FreightSplits();
    private final PlainModel model = new PlainModel();
    private final StringBuilder told = new StringBuilder();
    private String script = "";
    private boolean same = true;

    private RandomRunsTest(long seed) {
        random = new Random(seed);
    }

    public static void main(String[] args) {
        for (int run = 0; run < RUNS; run++) {
            RandomRunsTest test = new RandomRunsTest(run);
            // Runs of few splits, many trips, or much of everything.
            int kind = run % 3;
            for (int i = 0; i < CALLS && test.same; i++) {
                test.oneCall(kind);
            }
            Expect.holds("run " + run + ": " + (test.same ? "" : test.told), test.same);
        }
        Expect.finish();
    }

    private int upTo(int most) {
        return random.nextInt(most + 1);
    }

    /** Mostly a number of the range, sometimes one beside it, seldom one far away. */
    private int near(int least, int most) {
        int kind = random.nextInt(60);
        if (kind == 0) {
            return least - 1;
        }
        if (kind == 1) {
            return most + 1;
        }
        if (kind == 2) {
            int[] far = {Integer.MIN_VALUE, Integer.MAX_VALUE, -7, 77777, 0};
            return far[random.nextInt(far.length)];
        }
        if (kind < 6) {
            return kind % 2 == 0 ? least : most;
        }
        return least + random.nextInt(most - least + 1);
    }

    private int number() {
        return near(0, Math.max(0, Math.min(15, real.count(0) - 1)));
    }

    private int truck() {
        return near(0, Math.max(0, Math.min(3, real.count(1) - 1)));
    }

    private void answers(String call, int got, int want) {
        told.append("\n  ").append(call).append(" -> ").append(got);
        if (got != want) {
            told.append(", due is ").append(want);
            same = false;
        }
    }

    private void oneCall(int kind) {
        int pick = random.nextInt(100);
        if (pick < 8) {
            consign();
        } else if (pick < 14) {
            int n = number();
            int s = near(1, kind == 0 ? 5 : 30);
            int w = near(1, kind == 0 ? 5 : 30);
            answers("split(" + n + ", " + s + ", " + w + ")", real.split(n, s, w), model.split(n, s, w));
        } else if (pick < 20) {
            join();
        } else if (pick < 23) {
            int room = near(1, 200);
            int weight = near(1, 200);
            answers("vehicle(" + room + ", " + weight + ")", real.vehicle(room, weight),
                    model.vehicle(room, weight));
        } else if (pick < 31) {
            int n = number();
            int v = truck();
            answers("load(" + n + ", " + v + ")", real.load(n, v), model.load(n, v));
        } else if (pick < 34) {
            int n = number();
            answers("unload(" + n + ")", real.unload(n), model.unload(n));
        } else if (pick < 38) {
            int v = truck();
            int p = near(1, 4);
            int r = near(0, 2);
            answers("wouldFill(" + v + ", " + p + ", " + r + ")", real.wouldFill(v, p, r),
                    model.wouldFill(v, p, r));
            answers("fill(" + v + ", " + p + ", " + r + ")", real.fill(v, p, r), model.fill(v, p, r));
        } else if (pick < 44) {
            int v = truck();
            answers("wouldEarn(" + v + ")", real.wouldEarn(v), model.wouldEarn(v));
            answers("depart(" + v + ")", real.depart(v), model.depart(v));
        } else if (pick < 52) {
            offer();
        } else if (pick < 60) {
            int h = random.nextInt(8) == 0 ? near(1, 99) : near(1, 4);
            answers("pass(" + h + ")", real.pass(h), model.pass(h));
        } else if (pick < 62) {
            int what = near(0, 2);
            int value = near(0, what == 0 ? 24 : what == 1 ? 99 : 20);
            answers("set(" + what + ", " + value + ")", real.set(what, value), model.set(what, value));
        } else if (pick < 66 + 2 * kind) {
            answers("undo()", real.undo(), model.undo());
        } else if (pick < 84) {
            question(pick);
        } else {
            text();
        }
        answers("count(2)", real.count(2), model.count(2));
        answers("count(11)", real.count(11), model.count(11));
    }

    private void consign() {
        int p = near(1, 4);
        int s = near(1, random.nextBoolean() ? 99 : 20);
        int w = near(1, random.nextBoolean() ? 99 : 20);
        int time = real.count(2);
        int from = random.nextInt(10) == 0 ? near(0, 9999) : near(0, time + 10);
        int to = random.nextInt(10) == 0 ? near(0, 9999) : near(from, from + 30);
        int worth = random.nextBoolean() ? near(0, 999) : near(0, 9);
        answers("consign(" + p + ", " + s + ", " + w + ", " + from + ", " + to + ", " + worth + ")",
                real.consign(p, s, w, from, to, worth), model.consign(p, s, w, from, to, worth));
    }

    private void join() {
        int one = number();
        int other = number();
        int parts = real.consignmentOf(one, 9);
        if (parts > 0 && random.nextInt(3) > 0) {
            other = 31 - Integer.numberOfLeadingZeros(parts);
        }
        if (random.nextBoolean()) {
            int swap = one;
            one = other;
            other = swap;
        }
        answers("join(" + one + ", " + other + ")", real.join(one, other), model.join(one, other));
    }

    private void offer() {
        int p = near(1, 4);
        int s = near(1, 99);
        int w = near(1, 99);
        int price = random.nextBoolean() ? near(0, 999) : near(0, 3);
        int h = random.nextBoolean() ? near(0, 99) : near(0, 12);
        answers("offer(" + p + ", " + s + ", " + w + ", " + price + ", " + h + ")",
                real.offer(p, s, w, price, h), model.offer(p, s, w, price, h));
    }

    private void question(int pick) {
        if (pick < 72) {
            int n = number();
            for (int what = -1; what <= 11; what++) {
                answers("consignmentOf(" + n + ", " + what + ")", real.consignmentOf(n, what),
                        model.consignmentOf(n, what));
            }
        } else if (pick < 76) {
            int v = truck();
            for (int what = -1; what <= 10; what++) {
                answers("vehicleOf(" + v + ", " + what + ")", real.vehicleOf(v, what),
                        model.vehicleOf(v, what));
            }
        } else if (pick < 79) {
            int index = near(0, 9);
            for (int what = -1; what <= 5; what++) {
                answers("offerOf(" + index + ", " + what + ")", real.offerOf(index, what),
                        model.offerOf(index, what));
            }
        } else {
            for (int what = -1; what <= 23; what++) {
                answers("count(" + what + ")", real.count(what), model.count(what));
            }
            answers("hopeless()", real.hopeless(), model.hopeless());
        }
    }

    private void text() {
        if (random.nextInt(3) == 0) {
            answers("clearText()", real.clearText(), model.clearText());
            script = "";
        }
        int commands = upTo(3);
        StringBuilder typed = new StringBuilder();
        for (int i = 0; i < commands; i++) {
            typed.append(command());
        }
        if (typed.length() > 0 && random.nextInt(12) == 0) {
            typed.setCharAt(random.nextInt(typed.length()), (char) (31 + upTo(97)));
        }
        if (typed.length() > 0 && random.nextInt(12) == 0) {
            typed.setLength(typed.length() - 1);
        }
        for (int i = 0; i < typed.length(); i++) {
            int c = typed.charAt(i);
            answers("type(" + c + ")", real.type(c), model.type(c));
        }
        script += typed;
        told.append("\n  the text is about \"").append(script).append('"');
        int what = near(0, 1);
        answers("fault(" + what + ")", real.fault(what), model.fault(what));
        answers("fault(1)", real.fault(1), model.fault(1));
        if (random.nextInt(3) > 0) {
            answers("play()", real.play(), model.play());
        }
    }

    private String digits(int number) {
        String plain = String.valueOf(Math.max(0, Math.min(1200, number)));
        return random.nextInt(6) == 0 ? "0" + plain : plain;
    }

    private String command() {
        switch (random.nextInt(7)) {
            case 0: return "load " + digits(number()) + " " + digits(truck()) + ";";
            case 1: return "fill " + digits(truck()) + " " + digits(near(1, 4)) + " "
                    + digits(near(0, 2)) + ";";
            case 2: return "go " + digits(truck()) + ";";
            case 3: return "split " + digits(number()) + " " + digits(near(1, 9)) + " "
                    + digits(near(1, 9)) + ";";
            case 4: return "join " + digits(number()) + " " + digits(number()) + ";";
            case 5: return "offer " + digits(near(1, 4)) + " " + digits(near(1, 99)) + " "
                    + digits(near(1, 99)) + " " + digits(near(0, 999)) + " " + digits(near(0, 99)) + ";";
            default: return "pass " + digits(near(1, 12)) + ";";
        }
    }
}
