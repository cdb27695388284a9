import java.util.Random;

/** Runs of random calls, the same ones each time, beside the model. */
public final class RandomTest {
    private static final int RUNS = 600;
    // What an object answers after its 512th call is free, so a run ends with that one.
    private static final int CALLS = 512;
    private static final int MOST_CALLS_OF_A_CHANGE = 80;

    private final Due due;
    private final Random random;
    private final StrawDraws draws = new StrawDraws();
    private final Model model = new Model();
    private final int run;
    private int calls = 0;
    // How often there are changes, how far objects are apart and how much is built differ from run to run.
    private final int changesOfTen;
    private final int objects;

    private RandomTest(Due due, int run) {
        this.due = due;
        this.run = run;
        random = new Random(run);
        changesOfTen = 3 + random.nextInt(5);
        objects = new int[] {8, 30, 60, 10000}[random.nextInt(4)];
    }

    public static void main(String[] args) {
        Due due = new Due("random");
        for (int run = 0; run < RUNS; run++) {
            new RandomTest(due, run).go();
        }
        Due.end(due);
    }

    private void go() {
        boolean buildsFirst = random.nextBoolean();
        while (calls < CALLS) {
            if (buildsFirst && calls < 50) {
                if (calls < 12) {
                    build();
                } else {
                    store();
                }
            } else if (calls + MOST_CALLS_OF_A_CHANGE <= CALLS && random.nextInt(10) < changesOfTen) {
                change();
            } else {
                ask();
            }
        }
    }

    private int odd(int most) {
        int[] others = {-1, most, most + 1, Integer.MAX_VALUE, Integer.MIN_VALUE, -6, -2};
        return random.nextInt(14) == 0 ? others[random.nextInt(others.length)] : random.nextInt(most + 1);
    }

    private int anyServer() {
        int servers = model.count(0);
        return random.nextInt(12) == 0 || servers == 0 ? odd(12) : random.nextInt(servers);
    }

    private int anyObject() {
        int kept = model.count(1);
        if (kept > 0 && random.nextInt(3) > 0) {
            return model.object(random.nextInt(kept), 0);
        }
        return random.nextInt(20) == 0 ? odd(9999) : random.nextInt(objects);
    }

    private int newObject() {
        return random.nextInt(20) == 0 ? odd(9999) : random.nextInt(objects);
    }

    private void same(String call, int got, int want) {
        calls++;
        due.is("run " + run + ", " + call, got, want);
    }

    private void build() {
        int rack = odd(5);
        int weight = odd(16);
        same("server(" + rack + ", " + weight + ")", draws.server(rack, weight), model.server(rack, weight));
    }

    private void store() {
        int object = newObject();
        same("store(" + object + ")", draws.store(object), model.store(object));
    }

    private void change() {
        int a = anyServer();
        switch (random.nextInt(16)) {
            case 0 -> {
                int setting = odd(1);
                int value = setting == 0 ? odd(4) : odd(1000);
                same("set(" + setting + ", " + value + ")", draws.set(setting, value), model.set(setting, value));
            }
            case 1 -> build();
            case 2, 3 -> {
                int weight = odd(16);
                same("weigh(" + a + ", " + weight + ")", draws.weigh(a, weight), model.weigh(a, weight));
            }
            case 4 -> {
                int rack = odd(5);
                same("toRack(" + a + ", " + rack + ")", draws.toRack(a, rack), model.toRack(a, rack));
            }
            case 5, 6 -> {
                boolean isDown = random.nextInt(3) == 0;
                same("down(" + a + ", " + isDown + ")", draws.down(a, isDown), model.down(a, isDown));
            }
            case 7, 8, 9 -> store();
            case 10 -> {
                int object = anyObject();
                same("drop(" + object + ")", draws.drop(object), model.drop(object));
            }
            case 11 -> {
                int object = anyObject();
                int server = random.nextInt(4) == 0 ? Model.NONE : a;
                same("pin(" + object + ", " + server + ")", draws.pin(object, server), model.pin(object, server));
            }
            case 12 -> text();
            case 13 -> same("undo()", draws.undo(), model.undo());
            case 14 -> {
                int slot = odd(1);
                same("save(" + slot + ")", draws.save(slot), model.save(slot));
            }
            default -> {
                int slot = odd(1);
                if (random.nextInt(3) == 0) {
                    same("restore(" + slot + ")", draws.restore(slot), model.restore(slot));
                }
            }
        }
    }

    private void text() {
        StringBuilder text = new StringBuilder();
        int orders = 1 + random.nextInt(6);
        for (int i = 0; i < orders; i++) {
            text.append(i > 0 ? ";" : "").append(order());
        }
        if (random.nextInt(3) == 0) {
            int at = random.nextInt(text.length());
            char sign = "0123456789;+-wdup@=x!~".charAt(random.nextInt(22));
            switch (random.nextInt(3)) {
                case 0 -> text.setCharAt(at, sign);
                case 1 -> text.insert(at, sign);
                default -> text.deleteCharAt(at);
            }
        }
        for (int from = 0; from < text.length();) {
            int to = Math.min(text.length(), from + 1 + random.nextInt(8));
            long packed = Due.packed(text.substring(from, to));
            same("put(" + text.substring(from, to) + ")", draws.put(packed), model.put(packed));
            from = to;
        }
        same("count(10) after " + text, draws.count(10), model.count(10));
        same("fault() of " + text, draws.fault(), model.fault());
        same("carryOut() of " + text, draws.carryOut(), model.carryOut());
        if (random.nextInt(3) > 0) {
            same("wipe()", draws.wipe(), model.wipe());
        }
    }

    private String order() {
        int server = random.nextInt(Math.max(1, model.count(0)));
        return switch (random.nextInt(7)) {
            case 0, 1 -> "+" + random.nextInt(objects);
            case 2 -> "-" + Math.max(0, anyObject());
            case 3 -> "w" + server + "=" + random.nextInt(18);
            case 4 -> "d" + server;
            case 5 -> "u" + server;
            default -> "p" + Math.max(0, anyObject()) + "@" + (random.nextInt(3) == 0 ? "-" : "" + server);
        };
    }

    private void ask() {
        int a = anyServer();
        int object = anyObject();
        switch (random.nextInt(12)) {
            case 0, 1 -> {
                int what = odd(7);
                same("ofServer(" + a + ", " + what + ")", draws.ofServer(a, what), model.ofServer(a, what));
            }
            case 2 -> {
                int copy = odd(3);
                same("place(" + object + ", " + copy + ")", draws.place(object, copy), model.place(object, copy));
            }
            case 3 -> same("straw(" + a + ", " + object + ")", draws.straw(a, object), model.straw(a, object));
            case 4, 5 -> {
                int move = odd(Math.max(1, model.count(4)));
                int what = odd(3);
                same("move(" + move + ", " + what + ")", draws.move(move, what), model.move(move, what));
            }
            case 6 -> {
                int place = odd(Math.max(1, model.count(1)));
                int what = odd(3);
                same("object(" + place + ", " + what + ")", draws.object(place, what), model.object(place, what));
            }
            case 7, 8 -> {
                int what = odd(12);
                same("count(" + what + ")", draws.count(what), model.count(what));
            }
            case 9 -> {
                int weight = odd(16);
                same("movesIf(" + a + ", " + weight + ")", draws.movesIf(a, weight), model.movesIf(a, weight));
            }
            case 10 -> {
                int other = anyServer();
                same("lostWith(" + a + ", " + other + ")", draws.lostWith(a, other), model.lostWith(a, other));
            }
            default -> {
                if (random.nextInt(8) == 0) {
                    int what = odd(1);
                    same("bestWeight(" + a + ", " + what + ")", draws.bestWeight(a, what), model.bestWeight(a, what));
                } else {
                    long[] codes = {0, -1, random.nextLong(), 0x2b00, 0x2b, 0x20, 0x7e, 0x7f, 0x2b0031L,
                        Long.MIN_VALUE, Long.MAX_VALUE, 0x2b31000000000000L, 0x2b31000000000031L};
                    long code = codes[random.nextInt(codes.length)];
                    same("put(" + code + ")", draws.put(code), model.put(code));
                }
            }
        }
    }
}
