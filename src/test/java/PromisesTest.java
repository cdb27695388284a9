/** Each promise of the document with ordinary inputs, the edges that it names, and wrong inputs. */
public final class PromisesTest {
    private static final int NO_SUCH = StrawDraws.NO_SUCH;
    private static final int BAD_VALUE = StrawDraws.BAD_VALUE;
    private static final int BAD_TEXT = StrawDraws.BAD_TEXT;
    private static final int TOO_MANY = StrawDraws.TOO_MANY;
    private static final int NOT_POSSIBLE = StrawDraws.NOT_POSSIBLE;
    private static final int NONE = StrawDraws.NONE;
    private static final int COPIES = StrawDraws.COPIES;
    private static final int SALT = StrawDraws.SALT;
    private static final int[] FAR = {Integer.MIN_VALUE, -7, -5, -1, Integer.MAX_VALUE};

    private PromisesTest() {
    }

    public static void main(String[] args) {
        Due.end(aNewObject(), set(), server(), weigh(), toRack(), down(), store(), drop(), pin(), ofServer(), place(),
                straw(), move(), object(), count(), movesIf(), lostWith(), bestWeight(), put(), wipe(), fault(),
                carryOut(), undo(), save(), restore());
    }

    private static Due aNewObject() {
        Due due = new Due("promise 1");
        StrawDraws x = new StrawDraws();
        int[] counts = {0, 0, 0, 0, 0, 0, 0, NONE, 2, 0, 0, 0};
        for (int what = 0; what < counts.length; what++) {
            due.is("count(" + what + ")", x.count(what), counts[what]);
        }
        due.is("ofServer(0, 0)", x.ofServer(0, 0), NO_SUCH);
        due.is("object(0, 0)", x.object(0, 0), NO_SUCH);
        due.is("place(0, 0)", x.place(0, 0), NONE);
        due.is("fault()", x.fault(), 0);
        due.is("undo()", x.undo(), NOT_POSSIBLE);
        due.is("restore(0)", x.restore(0), NOT_POSSIBLE);
        due.is("restore(1)", x.restore(1), NOT_POSSIBLE);
        return due;
    }

    private static Due set() {
        Due due = new Due("promise 2");
        StrawDraws x = Houses.small();
        due.is("set(COPIES, 3)", x.set(COPIES, 3), 5);
        due.moves(x, Due.row(1, NONE, 1), Due.row(2, NONE, 1), Due.row(3, NONE, 3), Due.row(400, NONE, 1), Due.row(9999, NONE, 3));
        due.is("set(COPIES, 1)", x.set(COPIES, 1), 10);
        due.is("move(0, 1)", x.move(0, 1), 1);
        due.is("move(1, 1)", x.move(1, 1), 2);
        due.is("move(1, 2)", x.move(1, 2), NONE);
        due.is("set(COPIES, 2)", x.set(COPIES, 2), 5);
        due.is("set(SALT, 999)", x.set(SALT, 999), 3);
        due.moves(x, Due.row(1, 2, 0), Due.row(2, 3, 1), Due.row(9999, 1, 3));
        due.is("set(SALT, 999) again", x.set(SALT, 999), 0);
        due.moves(x);
        due.is("count(9)", x.count(9), 999);
        due.is("set(SALT, 0)", x.set(SALT, 0), 3);
        StrawDraws full = Houses.full();
        due.is("set(COPIES, 1), 40 objects", full.set(COPIES, 1), 80);
        due.is("set(COPIES, 3), 40 objects", full.set(COPIES, 3), 80);
        due.is("move(79, 0)", full.move(79, 0), 39);
        due.is("move(80, 0)", full.move(80, 0), NO_SUCH);
        int[][] wrong = {{0, 0}, {0, 4}, {1, -1}, {1, 1000}, {2, 1}, {-1, 1}, {Integer.MIN_VALUE, 1},
            {Integer.MAX_VALUE, 1}, {0, Integer.MIN_VALUE}, {1, Integer.MAX_VALUE}};
        for (int[] pair : wrong) {
            due.is("set(" + pair[0] + ", " + pair[1] + ")", x.set(pair[0], pair[1]), BAD_VALUE);
        }
        due.moves(x, Due.row(1, 0, 2), Due.row(2, 1, 3), Due.row(9999, 3, 1));
        due.is("count(8)", x.count(8), 2);
        due.is("count(9)", x.count(9), 0);
        due.is("count(11)", x.count(11), 6);
        return due;
    }

    private static Due server() {
        Due due = new Due("promise 3");
        StrawDraws x = new StrawDraws();
        for (int value : FAR) {
            due.is("server(" + value + ", 1)", x.server(value, 1), BAD_VALUE);
            due.is("server(1, " + value + ")", x.server(1, value), BAD_VALUE);
        }
        due.is("server(6, 0)", x.server(6, 0), BAD_VALUE);
        due.is("server(0, 17)", x.server(0, 17), BAD_VALUE);
        due.is("count(11)", x.count(11), 0);
        for (int number = 0; number < 12; number++) {
            due.is("server " + number, x.server(number % 6, number + 4), number);
            due.is("ofServer(.., 0)", x.ofServer(number, 0), number % 6);
            due.is("ofServer(.., 1)", x.ofServer(number, 1), number + 4);
            due.is("ofServer(.., 2)", x.ofServer(number, 2), 0);
        }
        due.is("the 13th", x.server(0, 0), TOO_MANY);
        due.is("the 13th, in no rack", x.server(6, 0), BAD_VALUE);
        due.is("the 13th, too heavy", x.server(5, 17), BAD_VALUE);
        due.is("count(0)", x.count(0), 12);
        StrawDraws y = Houses.small();
        y.set(COPIES, 3);
        y.toRack(3, 1);
        due.is("server(3, 0)", y.server(3, 0), 4);
        due.moves(y);
        y.undo();
        due.is("server(3, 16)", y.server(3, 16), 4);
        due.is("count(4)", y.count(4), 5);
        due.is("move(4, 0)", y.move(4, 0), 9999);
        due.is("move(4, 2)", y.move(4, 2), 4);
        return due;
    }

    private static Due weigh() {
        Due due = new Due("promise 4");
        StrawDraws x = Houses.small();
        due.is("weigh(3, 16)", x.weigh(3, 16), 2);
        due.moves(x, Due.row(3, 1, 3), Due.row(9999, 1, 3));
        due.is("ofServer(3, 1)", x.ofServer(3, 1), 16);
        due.is("weigh(3, 16) again", x.weigh(3, 16), 0);
        due.moves(x);
        due.is("weigh(3, 0)", x.weigh(3, 0), 5);
        due.moves(x, Due.row(1, 3, 1), Due.row(2, 3, 1), Due.row(3, 3, 1), Due.row(400, 3, 1), Due.row(9999, 3, 1));
        for (int value : FAR) {
            due.is("weigh(0, " + value + ")", x.weigh(0, value), BAD_VALUE);
            due.is("weigh(" + value + ", 1)", x.weigh(value, 1), NO_SUCH);
        }
        due.is("weigh(0, 17)", x.weigh(0, 17), BAD_VALUE);
        due.is("weigh(4, 1)", x.weigh(4, 1), NO_SUCH);
        due.is("weigh(4, 17)", x.weigh(4, 17), NO_SUCH);
        due.is("count(4)", x.count(4), 5);
        due.is("ofServer(0, 1)", x.ofServer(0, 1), 4);
        return due;
    }

    private static Due toRack() {
        Due due = new Due("promise 5");
        StrawDraws x = Houses.small();
        due.is("toRack(2, 2)", x.toRack(2, 2), 3);
        due.moves(x, Due.row(1, 2, 1), Due.row(2, 2, 1), Due.row(400, 2, 1));
        due.is("ofServer(2, 0)", x.ofServer(2, 0), 2);
        due.is("toRack(2, 2) again", x.toRack(2, 2), 0);
        due.moves(x);
        due.is("toRack(2, 5)", x.toRack(2, 5), 3);
        for (int value : FAR) {
            due.is("toRack(0, " + value + ")", x.toRack(0, value), BAD_VALUE);
            due.is("toRack(" + value + ", 0)", x.toRack(value, 0), NO_SUCH);
        }
        due.is("toRack(0, 6)", x.toRack(0, 6), BAD_VALUE);
        due.is("toRack(4, 6)", x.toRack(4, 6), NO_SUCH);
        due.is("count(4)", x.count(4), 3);
        due.is("ofServer(0, 0)", x.ofServer(0, 0), 0);
        return due;
    }

    private static Due down() {
        Due due = new Due("promise 6");
        StrawDraws x = Houses.small();
        due.is("down(2, false)", x.down(2, false), NOT_POSSIBLE);
        due.is("down(2, true)", x.down(2, true), 5);
        due.moves(x, Due.row(1, 2, 1), Due.row(2, 2, 1), Due.row(3, 2, 3), Due.row(400, 2, 1), Due.row(9999, 2, 3));
        due.is("down(2, true) again", x.down(2, true), NOT_POSSIBLE);
        due.is("ofServer(2, 2)", x.ofServer(2, 2), 1);
        due.is("down(0, true)", x.down(0, true), 0);
        due.moves(x);
        due.is("down(2, false)", x.down(2, false), 5);
        due.is("move(2, 1)", x.move(2, 1), 3);
        due.is("move(2, 2)", x.move(2, 2), 2);
        for (int value : FAR) {
            due.is("down(" + value + ", true)", x.down(value, true), NO_SUCH);
            due.is("down(" + value + ", false)", x.down(value, false), NO_SUCH);
        }
        due.is("down(4, false)", x.down(4, false), NO_SUCH);
        due.is("count(4)", x.count(4), 5);
        return due;
    }

    private static Due store() {
        Due due = new Due("promise 7");
        StrawDraws x = new StrawDraws();
        due.is("store(5)", x.store(5), 0);
        x.server(0, 4);
        due.moves(x, Due.row(5, NONE, 0));
        due.is("store(9)", x.store(9), 1);
        x.server(1, 4);
        due.is("store(7)", x.store(7), 2);
        due.moves(x, Due.row(5, NONE, 1), Due.row(9, NONE, 1));
        due.is("object(1, 0)", x.object(1, 0), 7);
        due.is("object(1, 1)", x.object(1, 1), NONE);
        for (int value : FAR) {
            due.is("store(" + value + ")", x.store(value), BAD_VALUE);
        }
        due.is("store(10000)", x.store(10000), BAD_VALUE);
        due.is("store(7) again", x.store(7), NOT_POSSIBLE);
        due.is("count(1)", x.count(1), 3);
        due.is("store(0)", x.store(0), 2);
        due.is("store(9999)", x.store(9999), 2);
        for (int object = 100; object < 135; object++) {
            due.is("store(" + object + ")", x.store(object), 2);
        }
        due.is("the 41st", x.store(200), TOO_MANY);
        due.is("a kept one among 40", x.store(7), TOO_MANY);
        due.is("a bad one among 40", x.store(10000), BAD_VALUE);
        due.is("count(1)", x.count(1), 40);
        due.is("object(0, 0)", x.object(0, 0), 0);
        due.is("object(39, 0)", x.object(39, 0), 9999);
        return due;
    }

    private static Due drop() {
        Due due = new Due("promise 8");
        StrawDraws x = Houses.small();
        x.pin(2, 0);
        x.pin(3, 1);
        x.weigh(3, 0);
        int moves = x.count(4);
        due.is("drop(2)", x.drop(2), 4);
        due.is("count(4)", x.count(4), moves);
        due.is("ofServer(0, 6)", x.ofServer(0, 6), 0);
        due.is("object(1, 0)", x.object(1, 0), 3);
        due.is("object(1, 1)", x.object(1, 1), 1);
        due.is("object(2, 1)", x.object(2, 1), NONE);
        due.is("drop(2) again", x.drop(2), NO_SUCH);
        due.is("drop(-6)", x.drop(NONE), NO_SUCH);
        due.is("drop(10000)", x.drop(10000), NO_SUCH);
        x.weigh(3, 1);
        due.is("store(2)", x.store(2), 2);
        due.is("object(1, 1)", x.object(1, 1), NONE);
        due.places(x, 2, 3, 2);
        due.is("drop(9999)", x.drop(9999), 4);
        due.is("drop(1)", x.drop(1), 3);
        due.is("object(0, 0)", x.object(0, 0), 2);
        due.is("drop(2)", x.drop(2), 2);
        due.is("drop(3)", x.drop(3), 1);
        due.is("drop(400)", x.drop(400), 0);
        due.is("count(2)", x.count(2), 0);
        StrawDraws full = Houses.full();
        due.is("drop(0) of 40", full.drop(0), 39);
        due.is("object(38, 0)", full.object(38, 0), 39);
        due.is("count(2)", full.count(2), 117);
        return due;
    }

    private static Due pin() {
        Due due = new Due("promise 9");
        StrawDraws x = Houses.small();
        due.is("pin(1, 0)", x.pin(1, 0), 1);
        due.moves(x, Due.row(1, 2, 0));
        due.places(x, 1, 0, 3);
        due.is("pin(1, 2)", x.pin(1, 2), 1);
        due.places(x, 1, 2, 3);
        due.is("pin(1, 3)", x.pin(1, 3), 0);
        due.places(x, 1, 3, 2);
        due.moves(x);
        due.is("pin(3, 3)", x.pin(3, 3), 1);
        due.places(x, 3, 3, 2);
        due.moves(x, Due.row(3, 1, 3));
        due.is("down(3, true)", x.down(3, true), 4);
        due.places(x, 3, 2, 1);
        due.is("object(2, 1)", x.object(2, 1), 3);
        due.is("pin(9999, 3), which is down", x.pin(9999, 3), 0);
        due.is("down(3, false)", x.down(3, false), 5);
        due.places(x, 9999, 3, 2);
        due.is("pin(9999, NONE)", x.pin(9999, NONE), 1);
        due.places(x, 9999, 2, 1);
        due.is("pin(5, 0)", x.pin(5, 0), NO_SUCH);
        due.is("pin(5, NONE)", x.pin(5, NONE), NO_SUCH);
        for (int value : FAR) {
            due.is("pin(1, " + value + ")", x.pin(1, value), NO_SUCH);
            due.is("pin(" + value + ", 1)", x.pin(value, 1), NO_SUCH);
        }
        due.is("pin(1, 4)", x.pin(1, 4), NO_SUCH);
        due.is("object(0, 1)", x.object(0, 1), 3);
        x.set(COPIES, 1);
        x.pin(2, 0);
        due.places(x, 2, 0);
        return due;
    }

    private static Due ofServer() {
        Due due = new Due("promise 10");
        StrawDraws x = Houses.small();
        x.pin(2, 1);
        x.pin(400, 1);
        x.pin(1, 3);
        // Now 1 is on 3 and 2, 2 and 400 on 1 and 3, 3 and 9999 on 2 and 1.
        int[][] rows = {{0, 4, 0, 0, 4000, 0, 0}, {0, 2, 0, 4, 2000, 2, 2}, {1, 3, 0, 3, 3000, 2, 0},
            {2, 1, 0, 3, 1000, 1, 1}};
        for (int server = 0; server < 4; server++) {
            for (int what = 0; what < 7; what++) {
                due.is("ofServer(" + server + ", " + what + ")", x.ofServer(server, what), rows[server][what]);
            }
        }
        x.down(1, true);
        int[] downRow = {0, 2, 1, 0, 0, 0, 2};
        for (int what = 0; what < 7; what++) {
            due.is("ofServer(1, " + what + ")", x.ofServer(1, what), downRow[what]);
        }
        // Copies 10, weights 8: the shares are rounded down.
        x.weigh(3, 2);
        due.is("ofServer(0, 4)", x.ofServer(0, 4), 4444);
        due.is("ofServer(2, 4)", x.ofServer(2, 4), 3333);
        due.is("ofServer(3, 4)", x.ofServer(3, 4), 2222);
        x.weigh(3, 0);
        due.is("ofServer(3, 4)", x.ofServer(3, 4), 0);
        for (int value : FAR) {
            due.is("ofServer(" + value + ", 0)", x.ofServer(value, 0), NO_SUCH);
            due.is("ofServer(0, " + value + ")", x.ofServer(0, value), BAD_VALUE);
        }
        due.is("ofServer(4, 7)", x.ofServer(4, 7), NO_SUCH);
        due.is("ofServer(3, 7)", x.ofServer(3, 7), BAD_VALUE);
        return due;
    }

    private static Due place() {
        Due due = new Due("promise 11");
        StrawDraws x = Houses.small();
        due.places(x, 1, 3, 2);
        due.places(x, 3, 2, 1);
        x.set(COPIES, 3);
        due.places(x, 1, 3, 2, 1);
        due.places(x, 9999, 2, 1, 3);
        x.pin(1, 0);
        due.places(x, 1, 0, 3, 2);
        x.drop(1);
        due.places(x, 1, 3, 2, 1);
        x.toRack(3, 1);
        due.places(x, 1, 3, 1);
        due.places(x, 2, 3, 1);
        x.weigh(3, 0);
        due.places(x, 1, 2, 1);
        due.places(x, 2, 2, 1);
        x.down(2, true);
        due.places(x, 1, 1);
        x.down(1, true);
        due.places(x, 1, 0);
        x.weigh(0, 0);
        due.places(x, 1);
        for (int value : FAR) {
            due.is("place(" + value + ", 0)", x.place(value, 0), BAD_VALUE);
        }
        due.is("place(10000, 0)", x.place(10000, 0), BAD_VALUE);
        due.is("place(2, -1)", x.place(2, -1), BAD_VALUE);
        due.is("place(1, MIN)", x.place(1, Integer.MIN_VALUE), BAD_VALUE);
        due.is("place(2, MAX)", x.place(2, Integer.MAX_VALUE), NONE);
        due.is("place(1, MAX)", x.place(1, Integer.MAX_VALUE), NONE);
        due.is("place(0, 0)", x.place(0, 0), NONE);
        return due;
    }

    private static Due straw() {
        Due due = new Due("promise 12");
        StrawDraws x = Houses.small();
        int[] ofOne = {1432837176, 1503921306, 1563707462, 1634791592};
        int[] ofLast = {1979547304, 2050631434, 2110417590, 34018072};
        for (int server = 0; server < 4; server++) {
            due.is("straw(" + server + ", 1)", x.straw(server, 1), ofOne[server]);
            due.is("straw(" + server + ", 9999)", x.straw(server, 9999), ofLast[server]);
        }
        x.set(SALT, 7);
        due.is("straw(3, 0)", x.straw(3, 0), lastStep(7, 3, 0));
        due.is("straw(3, 77)", x.straw(3, 77), lastStep(77007, 3, 0));
        x.weigh(3, 2);
        due.is("straw(3, 77)", x.straw(3, 77), Math.max(lastStep(77007, 3, 0), lastStep(77007, 3, 1)));
        x.weigh(3, 0);
        due.is("straw(3, 77), weight 0", x.straw(3, 77), NONE);
        x.down(2, true);
        due.is("straw(2, 77), down", x.straw(2, 77), NONE);
        for (int value : FAR) {
            due.is("straw(" + value + ", 0)", x.straw(value, 0), NO_SUCH);
            due.is("straw(0, " + value + ")", x.straw(0, value), BAD_VALUE);
        }
        due.is("straw(4, 10000)", x.straw(4, 10000), NO_SUCH);
        due.is("straw(2, 10000)", x.straw(2, 10000), BAD_VALUE);
        return due;
    }

    private static long lastStep(long seed, int server, int straw) {
        long x = (seed * 1103515245 + 12345) % 2147483648L;
        x = ((x + 7919 * (server + 1)) * 1103515245 + 12345) % 2147483648L;
        return ((x + 104729 * (straw + 1)) * 1103515245 + 12345) % 2147483648L;
    }

    private static Due move() {
        Due due = new Due("promise 13");
        StrawDraws x = Houses.small();
        due.is("move(0, 0)", x.move(0, 0), NO_SUCH);
        x.set(SALT, 999);
        due.moves(x, Due.row(1, 2, 0), Due.row(2, 3, 1), Due.row(9999, 1, 3));
        x.drop(2);
        x.store(5);
        x.save(0);
        x.place(7777, 0);
        x.movesIf(0, 0);
        x.bestWeight(0, 0);
        due.moves(x, Due.row(1, 2, 0), Due.row(2, 3, 1), Due.row(9999, 1, 3));
        // Two servers out and two in: each row is in ascending order by itself.
        StrawDraws y = new StrawDraws();
        for (int rack = 0; rack < 4; rack++) {
            y.server(rack, 1);
        }
        y.store(1);
        due.places(y, 1, 3, 1);
        due.is("set(SALT, 79)", y.set(SALT, 79), 2);
        due.places(y, 1, 2, 0);
        due.moves(y, Due.row(1, 1, 0), Due.row(1, 3, 2));
        for (int value : FAR) {
            due.is("move(" + value + ", 0)", x.move(value, 0), NO_SUCH);
            due.is("move(0, " + value + ")", x.move(0, value), BAD_VALUE);
        }
        due.is("move(0, 3)", x.move(0, 3), BAD_VALUE);
        due.is("move(3, 3)", x.move(3, 3), NO_SUCH);
        return due;
    }

    private static Due object() {
        Due due = new Due("promise 14");
        StrawDraws x = Houses.small();
        x.pin(400, 0);
        int[] order = {1, 2, 3, 400, 9999};
        for (int place = 0; place < 5; place++) {
            due.is("object(" + place + ", 0)", x.object(place, 0), order[place]);
            due.is("object(" + place + ", 1)", x.object(place, 1), place == 3 ? 0 : NONE);
            due.is("object(" + place + ", 2)", x.object(place, 2), 2);
        }
        x.set(COPIES, 3);
        due.is("object(4, 2)", x.object(4, 2), 3);
        x.toRack(3, 0);
        due.is("object(4, 2)", x.object(4, 2), 2);
        for (int value : FAR) {
            due.is("object(" + value + ", 0)", x.object(value, 0), NO_SUCH);
            due.is("object(0, " + value + ")", x.object(0, value), BAD_VALUE);
        }
        due.is("object(5, 3)", x.object(5, 3), NO_SUCH);
        due.is("object(4, 3)", x.object(4, 3), BAD_VALUE);
        return due;
    }

    private static Due count() {
        Due due = new Due("promise 15");
        StrawDraws x = Houses.small();
        x.set(SALT, 0);
        Due.putText(x, "+8");
        int[] counts = {4, 5, 10, 0, 0, 4, 10, 2, 2, 0, 2, 6};
        for (int what = 0; what < counts.length; what++) {
            due.is("count(" + what + ")", x.count(what), counts[what]);
        }
        x.down(3, true);
        x.down(2, true);
        // All in rack 0: one copy each, on server 1.
        int[] fewer = {4, 5, 5, 5, 5, 2, 6, 1, 2, 0, 2, 6};
        for (int what = 0; what < fewer.length; what++) {
            due.is("count(" + what + "), two down", x.count(what), fewer[what]);
        }
        StrawDraws y = new StrawDraws();
        y.server(3, 5);
        due.is("count(7), no objects", y.count(7), 0);
        y.server(3, 5);
        y.down(0, true);
        due.is("count(7), 0 is down", y.count(7), 1);
        y.weigh(1, 0);
        due.is("count(7), none takes part", y.count(7), NONE);
        StrawDraws z = new StrawDraws();
        z.server(0, 3);
        z.server(1, 3);
        z.store(50);
        due.is("count(7), both even", z.count(7), 0);
        StrawDraws light = new StrawDraws();
        light.server(0, 16);
        light.server(1, 1);
        light.store(50);
        due.is("count(7), the light one has as much", light.count(7), 1);
        for (int value : FAR) {
            due.is("count(" + value + ")", x.count(value), BAD_VALUE);
        }
        due.is("count(12)", x.count(12), BAD_VALUE);
        return due;
    }

    private static Due movesIf() {
        Due due = new Due("promise 16");
        StrawDraws x = Houses.small();
        x.set(SALT, 999);
        x.set(SALT, 0);
        for (int server = 0; server < 4; server++) {
            for (int weight = 0; weight <= 16; weight++) {
                StrawDraws y = Houses.small();
                due.is("movesIf(" + server + ", " + weight + ")", x.movesIf(server, weight), y.weigh(server, weight));
            }
        }
        due.is("movesIf(3, 16)", x.movesIf(3, 16), 2);
        due.is("movesIf(3, 0)", x.movesIf(3, 0), 3);
        x.movesIf(3, 0);
        due.is("ofServer(3, 1)", x.ofServer(3, 1), 1);
        due.is("count(4)", x.count(4), 3);
        due.is("count(2)", x.count(2), 10);
        due.is("place(1, 0)", x.place(1, 0), 3);
        due.is("count(11)", x.count(11), 6);
        x.toRack(2, 0);
        due.is("movesIf(3, 0), no other rack", x.movesIf(3, 0), 5);
        x.down(3, true);
        due.is("movesIf(3, 16), down", x.movesIf(3, 16), 0);
        for (int value : FAR) {
            due.is("movesIf(" + value + ", 0)", x.movesIf(value, 0), NO_SUCH);
            due.is("movesIf(0, " + value + ")", x.movesIf(0, value), BAD_VALUE);
        }
        due.is("movesIf(4, 17)", x.movesIf(4, 17), NO_SUCH);
        due.is("movesIf(0, 17)", x.movesIf(0, 17), BAD_VALUE);
        return due;
    }

    private static Due lostWith() {
        Due due = new Due("promise 17");
        StrawDraws x = Houses.small();
        // 1, 2 and 400 are on 3 and 2, 3 and 9999 on 2 and 1.
        due.is("lostWith(3, 2)", x.lostWith(3, 2), 3);
        due.is("lostWith(2, 3)", x.lostWith(2, 3), 3);
        due.is("lostWith(1, 2)", x.lostWith(1, 2), 2);
        due.is("lostWith(2, 2)", x.lostWith(2, 2), 0);
        due.is("lostWith(0, 1)", x.lostWith(0, 1), 0);
        due.is("count(4)", x.count(4), 0);
        due.is("ofServer(2, 2)", x.ofServer(2, 2), 0);
        x.set(COPIES, 1);
        due.is("lostWith(2, 2)", x.lostWith(2, 2), 2);
        due.is("lostWith(2, 0)", x.lostWith(2, 0), 2);
        due.is("lostWith(3, 2)", x.lostWith(3, 2), 5);
        for (int server = 0; server < 4; server++) {
            x.down(server, true);
        }
        due.is("lostWith(0, 0), all down", x.lostWith(0, 0), 5);
        for (int value : FAR) {
            due.is("lostWith(0, " + value + ")", x.lostWith(0, value), NO_SUCH);
            due.is("lostWith(" + value + ", 0)", x.lostWith(value, 0), NO_SUCH);
        }
        due.is("lostWith(0, 4)", x.lostWith(0, 4), NO_SUCH);
        due.is("lostWith(4, 4)", x.lostWith(4, 4), NO_SUCH);
        return due;
    }

    private static Due bestWeight() {
        Due due = new Due("promise 18");
        StrawDraws x = Houses.small();
        x.set(SALT, 999);
        x.set(SALT, 0);
        int[][] best = {{1, 4572}, {1, 7111}, {7, 5715}, {6, 5999}};
        for (int server = 0; server < 4; server++) {
            due.is("bestWeight(" + server + ", 0)", x.bestWeight(server, 0), best[server][0]);
            due.is("bestWeight(" + server + ", 1)", x.bestWeight(server, 1), best[server][1]);
        }
        due.is("ofServer(3, 1)", x.ofServer(3, 1), 1);
        due.is("ofServer(3, 3)", x.ofServer(3, 3), 3);
        due.is("count(4)", x.count(4), 3);
        x.weigh(2, 0);
        due.is("bestWeight(2, 0), weight 0 now", x.bestWeight(2, 0), 7);
        due.is("ofServer(2, 1)", x.ofServer(2, 1), 0);
        x.down(3, true);
        due.is("bestWeight(3, 0), down", x.bestWeight(3, 0), NOT_POSSIBLE);
        due.is("bestWeight(3, 2), down", x.bestWeight(3, 2), BAD_VALUE);
        for (int value : FAR) {
            due.is("bestWeight(" + value + ", 0)", x.bestWeight(value, 0), NO_SUCH);
            due.is("bestWeight(0, " + value + ")", x.bestWeight(0, value), BAD_VALUE);
        }
        due.is("bestWeight(4, 2)", x.bestWeight(4, 2), NO_SUCH);
        // Two copies of one object on two servers: the nearer the weights, the better.
        StrawDraws two = new StrawDraws();
        two.server(0, 16);
        two.server(1, 3);
        two.store(1);
        due.is("bestWeight(1, 0), 16 beside it", two.bestWeight(1, 0), 16);
        due.is("bestWeight(1, 1), 16 beside it", two.bestWeight(1, 1), 0);
        due.is("bestWeight(0, 0), 3 beside it", two.bestWeight(0, 0), 3);
        StrawDraws y = new StrawDraws();
        y.server(2, 9);
        y.store(1);
        due.is("bestWeight(0, 0), all alike", y.bestWeight(0, 0), 1);
        due.is("bestWeight(0, 1), all alike", y.bestWeight(0, 1), 0);
        return due;
    }

    private static Due put() {
        Due due = new Due("promise 19");
        StrawDraws x = new StrawDraws();
        long[] wrong = {0, 32, 127, 255, -1, Long.MIN_VALUE, Long.MAX_VALUE, 0x2b00, 0x2b0031, 0x2b20, 0x202b,
            0x2b7f, 0x7f2b, 0x2b313131_31313100L, 0x00ff0031_31313131L, 0x20313131_31313131L, 0x80313131_31313131L};
        for (long number : wrong) {
            due.is("put(" + Long.toHexString(number) + ")", x.put(number), BAD_VALUE);
        }
        due.is("count(10)", x.count(10), 0);
        due.is("put(!)", x.put(33), 1);
        due.is("put(~)", x.put(126), 2);
        due.is("put(+1;+2;+3)", x.put(Due.packed("+1;+2;+3")), 10);
        due.is("wipe()", x.wipe(), 10);
        due.is("put(+1;)", x.put(Due.packed("+1;")), 3);
        due.is("put(-2x)", x.put(Due.packed("-2x")), 6);
        due.is("fault()", x.fault(), 5);
        x.wipe();
        for (int times = 1; times <= 7; times++) {
            due.is("put, 8 characters", x.put(Due.packed("+1;-1;+1")), 8 * times);
        }
        due.is("put, to 61", x.put(Due.packed("12345")), TOO_MANY);
        due.is("put, a bad one to 61", x.put(Due.packed("1234 ")), BAD_VALUE);
        due.is("put, to 60", x.put(Due.packed("1234")), 60);
        due.is("put, one more", x.put('1'), TOO_MANY);
        due.is("count(10)", x.count(10), 60);
        due.is("count(11)", x.count(11), 0);
        return due;
    }

    private static Due wipe() {
        Due due = new Due("promise 20");
        StrawDraws x = new StrawDraws();
        due.is("wipe(), empty", x.wipe(), 0);
        Due.putText(x, "+17;+18;d0");
        due.is("wipe()", x.wipe(), 10);
        due.is("count(10)", x.count(10), 0);
        due.is("fault()", x.fault(), 0);
        due.is("count(11)", x.count(11), 0);
        due.is("carryOut()", x.carryOut(), BAD_TEXT);
        return due;
    }

    private static Due fault() {
        Due due = new Due("promise 21");
        String[] whole = {"+0", "-9999", "w0=0", "w9999=9999", "d7", "u10", "p0@0", "p1@-", "p9999@9999;+1;p5@-;d3",
            "+1;+1;+1;+1;+1;+1;+1;+1;+1;+1;+1;+1;+1;+1;+1;+1;+1;+1;+1;+12"};
        for (String text : whole) {
            due.is("fault() of " + text, faultOf(text), NONE);
        }
        String[] early = {"", "+", "-", "w", "w1", "w1=", "d", "u", "p", "p1", "p1@", "+1;", "p1@-;", "+1;w"};
        for (String text : early) {
            due.is("fault() of " + text, faultOf(text), text.length());
        }
        // The fault is where the first digit 8 or the sign ! is.
        String[] wrong = {"!", "8", "+!", "+08", "+9998!", "+99998", "+10008", "+1!", "w1!1", "w08=1", "w1=!", "w1=08",
            "w1=12348", "w12348=1", "d!1", "u1!", "p1!1", "p1@!", "p1@-8", "p1@-!", "p1@08", "p1@12348", "+1;!",
            "+1;!;", "d08", "+1!+2", "p08@-", "d1;u1;!d1"};
        for (String text : wrong) {
            int at = text.indexOf('!') >= 0 ? text.indexOf('!') : text.indexOf('8');
            due.is("fault() of " + text, faultOf(text), at);
        }
        due.is("fault() of ;+1", faultOf(";+1"), 0);
        due.is("fault() of +1;;+1", faultOf("+1;;+1"), 3);
        due.is("fault() of +-1", faultOf("+-1"), 1);
        due.is("fault() of w1=-", faultOf("w1=-"), 3);
        due.is("fault() of D1", faultOf("D1"), 0);
        due.is("fault() of p1=1", faultOf("p1=1"), 2);
        due.is("fault() of w1@1", faultOf("w1@1"), 2);
        String[][] afterOthers = {{"w1=5", "w1"}, {"p1@-", "p1@"}, {"+1;+2", "+1;"}, {"d12", "d"}, {"w1=5", "w1="}};
        for (String[] pair : afterOthers) {
            StrawDraws x = new StrawDraws();
            Due.putText(x, pair[0]);
            x.wipe();
            Due.putText(x, pair[1]);
            due.is("fault() of " + pair[1] + " after " + pair[0], x.fault(), pair[1].length());
        }
        return due;
    }

    private static int faultOf(String text) {
        StrawDraws x = new StrawDraws();
        Due.putText(x, text);
        return x.fault();
    }

    private static Due carryOut() {
        Due due = new Due("promise 22");
        StrawDraws x = Houses.small();
        Due.putText(x, "+7;-1;w3=16;d0;u0;p2@0;p2@-");
        due.is("carryOut()", x.carryOut(), 7);
        due.is("count(10)", x.count(10), 0);
        due.is("count(1)", x.count(1), 5);
        due.is("object(0, 0)", x.object(0, 0), 2);
        due.is("ofServer(3, 1)", x.ofServer(3, 1), 16);
        due.is("ofServer(0, 2)", x.ofServer(0, 2), 0);
        // Each order finds its own moves: the last one sends 2 from server 0 back to where it was.
        due.moves(x, Due.row(2, 0, 2));
        due.is("undo()", x.undo(), 5);
        due.is("object(0, 0)", x.object(0, 0), 1);
        due.is("ofServer(3, 1)", x.ofServer(3, 1), 1);
        due.moves(x);
        x.set(SALT, 999);
        Due.putText(x, "-2;+2;+2;d1");
        due.is("carryOut(), two of four", x.carryOut(), 2);
        due.is("ofServer(1, 2)", x.ofServer(1, 2), 0);
        due.moves(x, Due.row(1, 2, 0), Due.row(2, 3, 1), Due.row(9999, 1, 3));
        String[] stopped = {"+400", "-5", "w4=1", "w0=17", "d4", "u0", "u4", "p5@0", "p1@4", "p5@-", "+10;+1"};
        for (String text : stopped) {
            Due.putText(x, text);
            due.is("carryOut() of " + text, x.carryOut(), text.length() > 5 ? 1 : 0);
            due.is("count(10)", x.count(10), 0);
        }
        Due.putText(x, "d0;d0");
        due.is("carryOut() of d0;d0", x.carryOut(), 1);
        due.is("undo()", x.undo(), 5);
        Due.putText(x, "+5;x");
        due.is("carryOut(), a fault", x.carryOut(), BAD_TEXT);
        due.is("count(10)", x.count(10), 4);
        due.is("count(1)", x.count(1), 6);
        due.is("count(11)", x.count(11), 5);
        x.wipe();
        Due.putText(x, "u0");
        due.is("carryOut(), none", x.carryOut(), 0);
        due.is("count(11)", x.count(11), 6);
        Due.putText(x, "+1;-1;".repeat(9) + "-1;-1");
        due.is("carryOut(), the first one is kept", x.carryOut(), 0);
        Due.putText(x, "-1;+1;".repeat(9) + "d0;u0");
        due.is("carryOut(), 20 orders", x.carryOut(), 20);
        return due;
    }

    private static Due undo() {
        Due due = new Due("promise 23");
        StrawDraws x = new StrawDraws();
        due.is("undo(), none", x.undo(), NOT_POSSIBLE);
        x.server(0, 4);
        x.server(1, 4);
        due.is("count(11)", x.count(11), 2);
        x.store(10);
        x.pin(10, 1);
        x.set(SALT, 30);
        x.set(COPIES, 1);
        due.is("count(11)", x.count(11), 6);
        x.down(0, true);
        x.toRack(1, 5);
        due.is("count(11)", x.count(11), 6);
        Due.putText(x, "+1");
        x.save(0);
        due.is("undo(), toRack", x.undo(), 5);
        due.is("ofServer(1, 0)", x.ofServer(1, 0), 1);
        due.is("undo(), down", x.undo(), 4);
        due.is("ofServer(0, 2)", x.ofServer(0, 2), 0);
        due.moves(x, Due.row(10, 0, NONE));
        due.is("undo(), COPIES", x.undo(), 3);
        due.is("count(8)", x.count(8), 2);
        due.is("ofServer(0, 3)", x.ofServer(0, 3), 1);
        due.is("undo(), SALT", x.undo(), 2);
        due.is("count(9)", x.count(9), 0);
        due.is("undo(), pin", x.undo(), 1);
        due.is("object(0, 1)", x.object(0, 1), NONE);
        due.is("undo(), store", x.undo(), 0);
        due.is("count(1)", x.count(1), 0);
        due.is("undo(), no more", x.undo(), NOT_POSSIBLE);
        due.is("count(0)", x.count(0), 2);
        due.is("count(10), the pad stays", x.count(10), 2);
        due.is("restore(0), the slot stays", x.restore(0), 1);
        due.is("ofServer(1, 0)", x.ofServer(1, 0), 5);
        due.is("undo(), restore", x.undo(), 0);
        due.is("count(1)", x.count(1), 0);
        undoOfEach(due);
        // Calls that fail and calls that change nothing but the pad or a slot record nothing.
        x.set(0, 9);
        x.server(9, 9);
        x.weigh(9, 9);
        x.toRack(0, 9);
        x.down(0, false);
        x.store(-1);
        x.drop(1);
        x.pin(1, 1);
        x.restore(1);
        x.wipe();
        x.carryOut();
        x.put('+');
        x.save(1);
        x.movesIf(0, 1);
        x.lostWith(0, 1);
        x.bestWeight(0, 0);
        due.is("count(11)", x.count(11), 0);
        // Those do by which nothing is different.
        x.weigh(0, 4);
        x.toRack(0, 0);
        x.set(COPIES, 2);
        due.is("count(11)", x.count(11), 3);
        return due;
    }

    /** Each kind of change, alone, is undone to what was there. */
    private static void undoOfEach(Due due) {
        for (int kind = 0; kind < 10; kind++) {
            StrawDraws x = Houses.small();
            x.pin(3, 0);
            x.weigh(1, 3);
            x.save(0);
            x.set(SALT, 999);
            Due.putText(x, "d3;-2");
            String before = all(x);
            int answer = switch (kind) {
                case 0 -> x.set(COPIES, 3);
                case 1 -> x.server(5, 16);
                case 2 -> x.weigh(2, 0);
                case 3 -> x.toRack(2, 0);
                case 4 -> x.down(2, true);
                case 5 -> x.store(7);
                case 6 -> x.drop(3);
                case 7 -> x.pin(2, 0);
                case 8 -> x.carryOut();
                default -> x.restore(0);
            };
            due.is("kind " + kind + " works", answer >= 0 ? 1 : 0, 1);
            due.is("kind " + kind + " changes something", all(x).equals(before) ? 1 : 0, 0);
            due.is("undo(), kind " + kind, x.undo(), 5);
            due.is("all as before, kind " + kind, all(x).equals(before) ? 1 : 0, 1);
        }
    }

    /** All that can be asked but the pad and the history. */
    private static String all(StrawDraws x) {
        StringBuilder text = new StringBuilder();
        for (int what = 0; what < 10; what++) {
            text.append(x.count(what)).append(' ');
        }
        for (int server = 0; server < x.count(0); server++) {
            for (int what = 0; what < 7; what++) {
                text.append(x.ofServer(server, what)).append(' ');
            }
        }
        for (int place = 0; place < x.count(1); place++) {
            for (int what = 0; what < 3; what++) {
                text.append(x.object(place, what)).append(' ').append(x.place(x.object(place, 0), what)).append(' ');
            }
        }
        for (int move = 0; move < x.count(4); move++) {
            for (int what = 0; what < 3; what++) {
                text.append(x.move(move, what)).append(' ');
            }
        }
        return text.toString();
    }

    private static Due save() {
        Due due = new Due("promise 24");
        StrawDraws x = Houses.small();
        due.is("save(0)", x.save(0), 5);
        due.is("save(1)", x.save(1), 5);
        x.drop(1);
        due.is("save(1)", x.save(1), 4);
        due.is("count(11)", x.count(11), 6);
        x.drop(2);
        due.is("restore(1)", x.restore(1), 4);
        due.is("restore(0)", x.restore(0), 5);
        for (int value : FAR) {
            due.is("save(" + value + ")", x.save(value), BAD_VALUE);
        }
        due.is("save(2)", x.save(2), BAD_VALUE);
        StrawDraws y = new StrawDraws();
        due.is("save(1), empty", y.save(1), 0);
        y.store(1);
        due.is("restore(1), empty", y.restore(1), 0);
        due.is("count(1)", y.count(1), 0);
        return due;
    }

    /** Another SALT, and another weight for the lower six of 12 servers and for the higher six. */
    private static StrawDraws weighed(StrawDraws x, int salt, int lower, int higher) {
        x.set(SALT, salt);
        for (int server = 0; server < 12; server++) {
            x.weigh(server, server < 6 ? lower : higher);
        }
        return x;
    }

    private static void samePlaces(Due due, StrawDraws x, StrawDraws made) {
        for (int object = 0; object < 40; object++) {
            for (int copy = 0; copy < 3; copy++) {
                due.is("place(" + object + ", " + copy + ")", x.place(object, copy), made.place(object, copy));
            }
        }
    }

    private static Due restore() {
        Due due = new Due("promise 25");
        StrawDraws x = Houses.small();
        x.pin(1, 0);
        x.set(SALT, 999);
        int[][] moves = new int[x.count(4)][];
        for (int m = 0; m < moves.length; m++) {
            moves[m] = Due.row(x.move(m, 0), x.move(m, 1), x.move(m, 2));
        }
        Due.putText(x, "+1;+2");
        due.is("save(0)", x.save(0), 5);
        x.wipe();
        Due.putText(x, "+3");
        x.set(COPIES, 3);
        x.set(SALT, 1);
        x.server(4, 4);
        x.pin(1, 3);
        x.weigh(2, 9);
        x.toRack(1, 4);
        x.down(0, true);
        x.drop(400);
        due.is("restore(0)", x.restore(0), 5);
        due.moves(x, moves);
        due.is("count(0)", x.count(0), 4);
        due.is("count(8)", x.count(8), 2);
        due.is("count(9)", x.count(9), 999);
        due.is("count(10), the pad is not saved", x.count(10), 2);
        due.is("count(11)", x.count(11), 6);
        due.is("object(0, 1)", x.object(0, 1), 0);
        due.is("ofServer(2, 1)", x.ofServer(2, 1), 3);
        due.is("ofServer(1, 0)", x.ofServer(1, 0), 0);
        due.is("ofServer(0, 2)", x.ofServer(0, 2), 0);
        due.is("place(1, 0)", x.place(1, 0), 0);
        due.is("undo()", x.undo(), 5);
        due.is("count(1)", x.count(1), 4);
        due.is("ofServer(0, 2)", x.ofServer(0, 2), 1);
        due.is("restore(0) again", x.restore(0), 5);
        // Several things are other ones at once after it, and each straw is a new one.
        StrawDraws y = weighed(Houses.full(), 5, 3, 16);
        y.save(0);
        weighed(y, 6, 2, 1);
        y.restore(0);
        samePlaces(due, y, weighed(Houses.full(), 5, 3, 16));
        y.undo();
        samePlaces(due, y, weighed(Houses.full(), 6, 2, 1));
        due.is("restore(1), nothing saved", x.restore(1), NOT_POSSIBLE);
        for (int value : FAR) {
            due.is("restore(" + value + ")", x.restore(value), BAD_VALUE);
        }
        due.is("restore(2)", x.restore(2), BAD_VALUE);
        return due;
    }
}
