import java.io.IOException;

/** The sentences of the promises 1 to 9 that name a boundary, each with a test of its own. */
public final class EdgesOfChangesTest {
    private static final int NO_SUCH = StrawDraws.NO_SUCH;
    private static final int BAD_VALUE = StrawDraws.BAD_VALUE;
    private static final int BAD_TEXT = StrawDraws.BAD_TEXT;
    private static final int TOO_MANY = StrawDraws.TOO_MANY;
    private static final int NOT_POSSIBLE = StrawDraws.NOT_POSSIBLE;
    private static final int NONE = StrawDraws.NONE;
    private static final int COPIES = StrawDraws.COPIES;
    private static final int SALT = StrawDraws.SALT;
    private static final int MIN = Edges.MIN;
    private static final int MAX = Edges.MAX;

    private EdgesOfChangesTest() {
    }

    public static void main(String[] args) throws IOException {
        Edges edges = new Edges();
        aNewObject(edges.of("Promise 1", "Creates it without servers and objects."));
        ofItsOwn(edges.of("Promise 1", "`StrawDraws()`"));

        setIsAChange(edges.of("Promise 2", "Changes a setting. This is a change."));
        setMoves(edges.of("Promise 2", "Returns how many moves there are"));
        noSetting(edges.of("Promise 2", "BAD_VALUE if there is no such setting, or the value is out of its range."));

        serverIsAChange(edges.of("Promise 3", "Builds a server. This is a change."));
        serverRack(edges.of("Promise 3", "- `rack`: 0 to 5"));
        serverWeight(edges.of("Promise 3", "- `weight`: 0 to 16"));
        serverNumber(edges.of("Promise 3", "Returns its number"));
        serverBadValue(edges.of("Promise 3", "BAD_VALUE if an argument is out of range"));
        serverTooMany(edges.of("Promise 3", "TOO_MANY if there are 12."));

        weighIsAChange(edges.of("Promise 4", "Changes the weight of a server. This is a change."));
        weighWeight(edges.of("Promise 4", "- `weight`: 0 to 16"));
        weighMoves(edges.of("Promise 4", "Returns how many moves there are"));
        weighNoSuch(edges.of("Promise 4", "NO_SUCH if there is no such server"));
        weighBadValue(edges.of("Promise 4", "BAD_VALUE if weight is out of range."));

        toRackIsAChange(edges.of("Promise 5", "Moves a server to a rack. This is a change."));
        toRackRack(edges.of("Promise 5", "- `rack`: 0 to 5"));
        toRackMoves(edges.of("Promise 5", "Returns how many moves there are"));
        toRackNoSuch(edges.of("Promise 5", "NO_SUCH if there is no such server"));
        toRackBadValue(edges.of("Promise 5", "BAD_VALUE if rack is out of range."));

        downIsAChange(edges.of("Promise 6", "Lets a server go down, or come up again. This is a change."));
        downMoves(edges.of("Promise 6", "Returns how many moves there are"));
        downNoSuch(edges.of("Promise 6", "NO_SUCH if there is no such server"));
        downAlready(edges.of("Promise 6", "NOT_POSSIBLE if it is so already."));

        storeIsAChange(edges.of("Promise 7", "Stores an object. This is a change."));
        storeObject(edges.of("Promise 7", "- `object`: 0 to 9999"));
        storeCopies(edges.of("Promise 7", "Returns how many copies it has"));
        storeBadValue(edges.of("Promise 7", "BAD_VALUE if object is out of range"));
        storeTooMany(edges.of("Promise 7", "TOO_MANY if there are 40 objects"));
        storeAlready(edges.of("Promise 7", "NOT_POSSIBLE if it is kept already."));

        dropWithPin(edges.of("Promise 8", "Drops an object, with its pin. This is a change."));
        dropKept(edges.of("Promise 8", "Returns how many objects are kept then"));
        dropNoSuch(edges.of("Promise 8", "NO_SUCH if it is not kept."));

        pinIsAChange(edges.of("Promise 9", "Pins an object to a server, or unpins it. This is a change."));
        pinServer(edges.of("Promise 9", "- `server`: a server, or NONE"));
        pinMoves(edges.of("Promise 9", "Returns how many moves there are"));
        pinNoSuch(edges.of("Promise 9", "NO_SUCH if the object is not kept, or there is no such server."));
        edges.end();
    }

    /** The states that can be gone back to, one more after each of these answers. */
    private static void recorded(Due due, StrawDraws x, int... answers) {
        for (int answer : answers) {
            due.is("no error", Math.min(answer, 0), 0);
        }
        due.is("count(11)", x.count(11), answers.length);
        for (int left = answers.length - 1; left >= 0; left--) {
            due.is("undo()", x.undo(), left);
        }
    }

    private static void aNewObject(Due due) {
        StrawDraws x = new StrawDraws();
        int[] counts = {0, 0, 0, 0, 0, 0, 0, NONE, 2, 0, 0, 0};
        for (int what = 0; what < counts.length; what++) {
            due.is("count(" + what + ")", x.count(what), counts[what]);
        }
        due.is("ofServer(0, 1)", x.ofServer(0, 1), NO_SUCH);
        due.is("weigh(0, 1)", x.weigh(0, 1), NO_SUCH);
        due.is("toRack(0, 1)", x.toRack(0, 1), NO_SUCH);
        due.is("down(0, true)", x.down(0, true), NO_SUCH);
        due.is("straw(0, 1)", x.straw(0, 1), NO_SUCH);
        due.is("movesIf(0, 1)", x.movesIf(0, 1), NO_SUCH);
        due.is("lostWith(0, 0)", x.lostWith(0, 0), NO_SUCH);
        due.is("bestWeight(0, 0)", x.bestWeight(0, 0), NO_SUCH);
        due.is("drop(0)", x.drop(0), NO_SUCH);
        due.is("pin(0, NONE)", x.pin(0, NONE), NO_SUCH);
        due.is("object(0, 0)", x.object(0, 0), NO_SUCH);
        due.is("move(0, 0)", x.move(0, 0), NO_SUCH);
        due.are("place(.., 0)", object -> x.place(object, 0), NONE, 0, 1, 9999);
        due.is("wipe()", x.wipe(), 0);
        due.is("fault()", x.fault(), 0);
        due.is("carryOut()", x.carryOut(), BAD_TEXT);
        due.is("undo()", x.undo(), NOT_POSSIBLE);
        due.are("restore(..)", x::restore, NOT_POSSIBLE, 0, 1);
        due.is("save(0)", x.save(0), 0);
    }

    private static void ofItsOwn(Due due) {
        StrawDraws x = Houses.full();
        Due.putText(x, "+5");
        x.save(0);
        aNewObject(due);
        StrawDraws y = new StrawDraws();
        y.server(3, 3);
        y.set(COPIES, 1);
        due.is("count(0), the other one", x.count(0), 12);
        due.is("count(8), the other one", x.count(8), 3);
        due.is("count(10), the other one", x.count(10), 2);
    }

    private static void setIsAChange(Due due) {
        StrawDraws x = new StrawDraws();
        recorded(due, x, x.set(COPIES, 2), x.set(COPIES, 3), x.set(SALT, 0), x.set(SALT, 5));
        due.is("count(8), undone", x.count(8), 2);
        due.is("count(9), undone", x.count(9), 0);
        due.is("set(COPIES, 0)", x.set(COPIES, 0), BAD_VALUE);
        due.is("count(11), refused", x.count(11), 0);
    }

    private static void setMoves(Due due) {
        StrawDraws x = Houses.apart(1, 1, 1);
        due.is("set(COPIES, 3), no objects", x.set(COPIES, 3), 0);
        due.is("set(SALT, 7), no objects", x.set(SALT, 7), 0);
        Houses.storeSome(x, 40);
        due.is("set(COPIES, 3), as before", x.set(COPIES, 3), 0);
        due.is("set(SALT, 9), all stay", x.set(SALT, 9), 0);
        due.is("set(COPIES, 1), the most", x.set(COPIES, 1), 80);
        due.is("count(4)", x.count(4), 80);
        due.is("set(COPIES, 2)", x.set(COPIES, 2), 40);
        due.is("count(4)", x.count(4), 40);
    }

    private static void noSetting(Due due) {
        StrawDraws x = Houses.small();
        due.are("set(.., 1)", setting -> x.set(setting, 1), BAD_VALUE, MIN, NONE, -1, 2, 3, MAX);
        due.are("set(COPIES, ..)", value -> x.set(COPIES, value), BAD_VALUE, MIN, NONE, -1, 0, 4, 999, MAX);
        due.are("set(SALT, ..)", value -> x.set(SALT, value), BAD_VALUE, MIN, NONE, -1, 1000, MAX);
        due.is("set(COPIES, 1)", x.set(COPIES, 1), 5);
        due.is("set(COPIES, 3)", x.set(COPIES, 3), 10);
        due.is("set(SALT, 0)", x.set(SALT, 0), 0);
        due.is("set(SALT, 999)", Math.min(x.set(SALT, 999), 0), 0);
    }

    private static void serverIsAChange(Due due) {
        StrawDraws x = new StrawDraws();
        recorded(due, x, x.server(0, 1), x.server(0, 0), x.server(5, 16));
        due.is("count(0), undone", x.count(0), 0);
        due.is("server(6, 1)", x.server(6, 1), BAD_VALUE);
        due.is("count(11), refused", x.count(11), 0);
        due.is("the first one again", x.server(2, 3), 0);
        x.store(4);
        due.is("the second one", x.server(3, 3), 1);
        due.moves(x, Due.row(4, NONE, 1));
        x.down(1, true);
        x.undo();
        x.undo();
        due.is("the second one again", x.server(4, 5), 1);
        due.is("ofServer(1, 2), it is up", x.ofServer(1, 2), 0);
        due.is("ofServer(1, 0)", x.ofServer(1, 0), 4);
    }

    private static void serverRack(Due due) {
        StrawDraws x = new StrawDraws();
        for (int rack = 0; rack <= 5; rack++) {
            due.is("server(" + rack + ", 1)", x.server(rack, 1), rack);
            due.is("ofServer(" + rack + ", 0)", x.ofServer(rack, 0), rack);
        }
        due.are("server(.., 1)", rack -> x.server(rack, 1), BAD_VALUE, MIN, NONE, -1, 6, 7, MAX);
    }

    private static void serverWeight(Due due) {
        StrawDraws x = new StrawDraws();
        int[] weights = {0, 1, 15, 16};
        for (int server = 0; server < 4; server++) {
            due.is("server(1, " + weights[server] + ")", x.server(1, weights[server]), server);
            due.is("ofServer(" + server + ", 1)", x.ofServer(server, 1), weights[server]);
        }
        due.are("server(1, ..)", weight -> x.server(1, weight), BAD_VALUE, MIN, NONE, -1, 17, 18, MAX);
    }

    private static void serverNumber(Due due) {
        StrawDraws x = new StrawDraws();
        x.store(1);
        due.is("the first one, with a move", x.server(0, 1), 0);
        due.is("count(4)", x.count(4), 1);
        due.is("the second one, with a move", x.server(1, 1), 1);
        due.is("the third one, in the same rack", x.server(1, 0), 2);
        due.is("count(4)", x.count(4), 0);
        for (int server = 3; server < 12; server++) {
            due.is("the next one", x.server(5, 2), server);
        }
    }

    private static void serverBadValue(Due due) {
        StrawDraws x = new StrawDraws();
        due.is("server(-1, 0)", x.server(-1, 0), BAD_VALUE);
        due.is("server(0, -1)", x.server(0, -1), BAD_VALUE);
        due.is("server(6, 16)", x.server(6, 16), BAD_VALUE);
        due.is("server(5, 17)", x.server(5, 17), BAD_VALUE);
        due.is("server(16, 5)", x.server(16, 5), BAD_VALUE);
        due.is("server(MIN, MAX)", x.server(MIN, MAX), BAD_VALUE);
        due.is("count(0)", x.count(0), 0);
    }

    private static void serverTooMany(Due due) {
        StrawDraws x = new StrawDraws();
        for (int server = 0; server < 11; server++) {
            x.server(0, 1);
        }
        due.is("the 12th", x.server(5, 16), 11);
        due.is("the 13th", x.server(5, 16), TOO_MANY);
        due.is("the 13th, with the weight 0", x.server(0, 0), TOO_MANY);
        due.is("count(0)", x.count(0), 12);
        x.undo();
        due.is("the 12th again", x.server(0, 2), 11);
        due.is("the 13th again", x.server(0, 2), TOO_MANY);
    }

    private static void weighIsAChange(Due due) {
        StrawDraws x = Houses.apart(4, 4);
        x.undo();
        x.undo();
        due.is("no server", x.weigh(0, 4), NO_SUCH);
        StrawDraws y = Houses.apart(4);
        y.weigh(0, 4);
        due.is("count(11), the same weight", y.count(11), 2);
        y.weigh(0, 17);
        y.weigh(1, 1);
        due.is("count(11), refused", y.count(11), 2);
        y.weigh(0, 0);
        due.is("count(11), another weight", y.count(11), 3);
        y.undo();
        due.is("ofServer(0, 1), undone", y.ofServer(0, 1), 4);
    }

    private static void weighWeight(Due due) {
        StrawDraws x = Houses.apart(4);
        for (int weight : new int[] {0, 1, 15, 16, 0}) {
            due.is("weigh(0, " + weight + ")", x.weigh(0, weight), 0);
            due.is("ofServer(0, 1)", x.ofServer(0, 1), weight);
            due.is("count(6)", x.count(6), weight);
        }
    }

    private static void weighMoves(Due due) {
        StrawDraws x = Houses.apart(4, 4);
        due.is("weigh(0, 0), no objects", x.weigh(0, 0), 0);
        Houses.storeSome(x, 40);
        due.is("weigh(0, 1), from nothing", x.weigh(0, 1), 40);
        due.is("weigh(0, 1), as before", x.weigh(0, 1), 0);
        due.is("weigh(0, 16), all stay", x.weigh(0, 16), 0);
        due.is("weigh(0, 0), to nothing", x.weigh(0, 0), 40);
        x.down(0, true);
        due.is("weigh(0, 9), down", x.weigh(0, 9), 0);
        due.is("ofServer(0, 1), down", x.ofServer(0, 1), 9);
    }

    private static void weighNoSuch(Due due) {
        StrawDraws x = Houses.small();
        due.are("weigh(.., 1)", server -> x.weigh(server, 1), NO_SUCH, MIN, NONE, -1, 4, 11, 12, MAX);
        due.are("weigh(.., 17)", server -> x.weigh(server, 17), NO_SUCH, MIN, -1, 4, MAX);
        due.is("the last one there is", Math.min(x.weigh(3, 1), 0), 0);
        StrawDraws full = Houses.full();
        due.is("weigh(11, 3)", full.weigh(11, 3), 0);
        due.is("weigh(12, 3)", full.weigh(12, 3), NO_SUCH);
    }

    private static void weighBadValue(Due due) {
        StrawDraws x = Houses.small();
        due.are("weigh(3, ..)", weight -> x.weigh(3, weight), BAD_VALUE, MIN, NONE, -1, 17, 18, MAX);
        due.is("ofServer(3, 1)", x.ofServer(3, 1), 1);
    }

    private static void toRackIsAChange(Due due) {
        StrawDraws x = Houses.together(4);
        x.toRack(0, 0);
        due.is("count(11), the same rack", x.count(11), 2);
        x.toRack(0, 6);
        x.toRack(1, 1);
        due.is("count(11), refused", x.count(11), 2);
        x.toRack(0, 5);
        due.is("count(11), another rack", x.count(11), 3);
        x.undo();
        due.is("ofServer(0, 0), undone", x.ofServer(0, 0), 0);
    }

    private static void toRackRack(Due due) {
        StrawDraws x = Houses.together(4);
        for (int rack : new int[] {5, 4, 3, 2, 1, 0}) {
            due.is("toRack(0, " + rack + ")", x.toRack(0, rack), 0);
            due.is("ofServer(0, 0)", x.ofServer(0, 0), rack);
        }
    }

    private static void toRackMoves(Due due) {
        StrawDraws x = Houses.together(4, 4);
        due.is("toRack(0, 1), no objects", x.toRack(0, 1), 0);
        Houses.storeSome(x, 40);
        due.is("toRack(0, 1), as before", x.toRack(0, 1), 0);
        due.is("toRack(0, 5), alone as before", x.toRack(0, 5), 0);
        due.is("toRack(0, 0), together", x.toRack(0, 0), 40);
        due.is("count(2)", x.count(2), 40);
        due.is("toRack(1, 5), apart", x.toRack(1, 5), 40);
        due.is("count(2)", x.count(2), 80);
        x.down(0, true);
        due.is("toRack(0, 5), down", x.toRack(0, 5), 0);
    }

    private static void toRackNoSuch(Due due) {
        StrawDraws x = Houses.small();
        due.are("toRack(.., 1)", server -> x.toRack(server, 1), NO_SUCH, MIN, NONE, -1, 4, 11, 12, MAX);
        due.are("toRack(.., 6)", server -> x.toRack(server, 6), NO_SUCH, MIN, -1, 4, MAX);
        due.is("the last one there is", x.toRack(3, 2), 0);
        StrawDraws full = Houses.full();
        due.is("toRack(11, 5)", full.toRack(11, 5), 0);
        due.is("toRack(12, 5)", full.toRack(12, 5), NO_SUCH);
    }

    private static void toRackBadValue(Due due) {
        StrawDraws x = Houses.small();
        due.are("toRack(3, ..)", rack -> x.toRack(3, rack), BAD_VALUE, MIN, NONE, -1, 6, 7, MAX);
        due.is("ofServer(3, 0)", x.ofServer(3, 0), 2);
    }

    private static void downIsAChange(Due due) {
        StrawDraws x = Houses.apart(4);
        x.down(0, true);
        due.is("count(11), down", x.count(11), 2);
        x.down(0, true);
        x.down(1, true);
        due.is("count(11), refused", x.count(11), 2);
        x.down(0, false);
        due.is("count(11), up", x.count(11), 3);
        x.undo();
        due.is("ofServer(0, 2), undone", x.ofServer(0, 2), 1);
        x.undo();
        due.is("ofServer(0, 2), undone", x.ofServer(0, 2), 0);
    }

    private static void downMoves(Due due) {
        StrawDraws x = Houses.apart(4, 4, 0);
        due.is("down(0, true), no objects", x.down(0, true), 0);
        Houses.storeSome(x, 40);
        due.is("down(0, false)", x.down(0, false), 40);
        due.is("down(0, true)", x.down(0, true), 40);
        due.is("down(1, true)", x.down(1, true), 40);
        due.is("count(2)", x.count(2), 0);
        due.is("down(2, true), the weight 0", x.down(2, true), 0);
        due.is("down(2, false), the weight 0", x.down(2, false), 0);
        due.is("down(1, false)", x.down(1, false), 40);
    }

    private static void downNoSuch(Due due) {
        StrawDraws x = Houses.small();
        due.are("down(.., true)", server -> x.down(server, true), NO_SUCH, MIN, NONE, -1, 4, 11, 12, MAX);
        due.are("down(.., false)", server -> x.down(server, false), NO_SUCH, MIN, NONE, -1, 4, 11, 12, MAX);
        due.is("the last one there is", x.down(3, true), 3);
        StrawDraws full = Houses.full();
        due.is("down(11, true)", Math.min(full.down(11, true), 0), 0);
        due.is("down(12, true)", full.down(12, true), NO_SUCH);
    }

    private static void downAlready(Due due) {
        StrawDraws x = Houses.apart(4, 0);
        due.is("down(0, false), up at first", x.down(0, false), NOT_POSSIBLE);
        due.is("down(1, false), the weight 0 is not down", x.down(1, false), NOT_POSSIBLE);
        due.is("down(0, true)", x.down(0, true), 0);
        due.is("down(0, true), down", x.down(0, true), NOT_POSSIBLE);
        due.is("down(0, false)", x.down(0, false), 0);
        due.is("down(0, false), up", x.down(0, false), NOT_POSSIBLE);
    }

    private static void storeIsAChange(Due due) {
        StrawDraws x = new StrawDraws();
        recorded(due, x, x.store(3), x.store(0), x.store(9999));
        due.is("count(1), undone", x.count(1), 0);
        x.store(3);
        x.store(3);
        x.store(-1);
        due.is("count(11), refused", x.count(11), 1);
    }

    private static void storeObject(Due due) {
        StrawDraws x = Houses.apart(1);
        due.is("store(0)", x.store(0), 1);
        due.is("store(9999)", x.store(9999), 1);
        due.is("object(0, 0)", x.object(0, 0), 0);
        due.is("object(1, 0)", x.object(1, 0), 9999);
        due.places(x, 9999, 0);
    }

    private static void storeCopies(Due due) {
        StrawDraws x = new StrawDraws();
        due.is("store(1), no servers", x.store(1), 0);
        x.server(0, 0);
        due.is("store(2), none takes part", x.store(2), 0);
        x.weigh(0, 1);
        due.is("store(3), one", x.store(3), 1);
        x.server(0, 1);
        due.is("store(4), two in one rack", x.store(4), 1);
        x.server(1, 1);
        due.is("store(5), two racks", x.store(5), 2);
        x.server(2, 1);
        due.is("store(6), three racks, COPIES 2", x.store(6), 2);
        x.set(COPIES, 3);
        due.is("store(7), three racks", x.store(7), 3);
        x.server(3, 1);
        due.is("store(8), four racks", x.store(8), 3);
        x.set(COPIES, 1);
        due.is("store(0), COPIES 1", x.store(0), 1);
        due.is("store(9999), behind all", x.store(9999), 1);
    }

    private static void storeBadValue(Due due) {
        StrawDraws x = Houses.small();
        due.are("store(..)", x::store, BAD_VALUE, MIN, NONE, -1, 10000, 10001, MAX);
        due.is("count(1)", x.count(1), 5);
        StrawDraws full = Houses.full();
        due.are("store(..), 40 are kept", full::store, BAD_VALUE, MIN, -1, 10000, MAX);
    }

    private static void storeTooMany(Due due) {
        StrawDraws x = new StrawDraws();
        Houses.storeSome(x, 39);
        due.is("the 40th", x.store(9999), 0);
        due.is("the 41st", x.store(39), TOO_MANY);
        due.is("one of the 40", x.store(9999), TOO_MANY);
        due.is("count(1)", x.count(1), 40);
        due.is("drop(0)", x.drop(0), 39);
        due.is("the 40th again", x.store(39), 0);
        due.is("the 41st again", x.store(0), TOO_MANY);
    }

    private static void storeAlready(Due due) {
        StrawDraws x = new StrawDraws();
        due.are("store(..)", x::store, 0, 0, 50, 9999);
        due.are("store(..) again", x::store, NOT_POSSIBLE, 0, 50, 9999);
        due.is("count(1)", x.count(1), 3);
        x.drop(50);
        due.is("store(50), dropped", x.store(50), 0);
    }

    private static void dropWithPin(Due due) {
        StrawDraws x = Houses.small();
        x.pin(1, 0);
        x.pin(9999, 0);
        due.is("drop(9999)", x.drop(9999), 4);
        due.is("ofServer(0, 6)", x.ofServer(0, 6), 1);
        due.is("count(11)", x.count(11), 6);
        due.places(x, 9999, 2, 1);
        x.store(9999);
        due.is("object(4, 1), without a pin", x.object(4, 1), NONE);
        due.is("object(0, 1), with a pin", x.object(0, 1), 0);
        x.drop(1);
        due.is("object(0, 1), the next one without a pin", x.object(0, 1), NONE);
        x.undo();
        due.is("object(0, 1), undone", x.object(0, 1), 0);
        due.places(x, 1, 0, 3);
        StrawDraws y = new StrawDraws();
        y.store(1);
        y.drop(1);
        y.drop(1);
        y.drop(-1);
        due.is("count(11), dropped and refused", y.count(11), 2);
    }

    private static void dropKept(Due due) {
        StrawDraws x = Houses.full();
        for (int object = 39; object >= 0; object--) {
            due.is("drop(" + object + ")", x.drop(object), object);
        }
        due.is("count(1)", x.count(1), 0);
        due.is("count(2)", x.count(2), 0);
        due.is("object(0, 0)", x.object(0, 0), NO_SUCH);
        due.is("ofServer(0, 3)", x.ofServer(0, 3), 0);
        Houses.storeSome(x, 3);
        due.is("drop(0), the first one", x.drop(0), 2);
        due.is("object(0, 0)", x.object(0, 0), 1);
        due.is("object(1, 0)", x.object(1, 0), 2);
    }

    private static void dropNoSuch(Due due) {
        StrawDraws x = new StrawDraws();
        due.is("drop(0), none is kept", x.drop(0), NO_SUCH);
        x.store(5);
        due.are("drop(..)", x::drop, NO_SUCH, MIN, NONE, -1, 0, 4, 6, 9999, 10000, MAX);
        due.is("drop(5)", x.drop(5), 0);
        due.is("drop(5) again", x.drop(5), NO_SUCH);
        StrawDraws full = Houses.full();
        due.is("drop(39)", full.drop(39), 39);
        due.is("drop(39) again", full.drop(39), NO_SUCH);
        due.is("drop(40)", full.drop(40), NO_SUCH);
    }

    private static void pinIsAChange(Due due) {
        StrawDraws x = Houses.apart(1);
        x.store(5);
        x.pin(5, NONE);
        due.is("count(11), unpinned as before", x.count(11), 3);
        x.pin(5, 0);
        x.pin(5, 0);
        due.is("count(11), pinned twice", x.count(11), 5);
        x.pin(5, 1);
        x.pin(6, 0);
        due.is("count(11), refused", x.count(11), 5);
        x.undo();
        due.is("object(0, 1), undone", x.object(0, 1), 0);
        x.undo();
        due.is("object(0, 1), undone", x.object(0, 1), NONE);
    }

    private static void pinServer(Due due) {
        StrawDraws x = Houses.full();
        int[] servers = {0, 11, NONE, 5, NONE};
        for (int server : servers) {
            due.is("pin(0, " + server + ") is no error", Math.min(x.pin(0, server), 0), 0);
            due.is("object(0, 1)", x.object(0, 1), server);
            due.is("object(1, 1)", x.object(1, 1), NONE);
        }
        x.down(3, true);
        x.weigh(4, 0);
        due.is("pin(39, 3), which is down", x.pin(39, 3), 0);
        due.is("object(39, 1)", x.object(39, 1), 3);
        due.is("pin(39, 4), the weight 0", x.pin(39, 4), 0);
        due.is("object(39, 1)", x.object(39, 1), 4);
    }

    private static void pinMoves(Due due) {
        // By their straws 3, 2, 1, 0 for the object 1.
        StrawDraws x = Houses.small();
        due.is("pin(1, NONE), as before", x.pin(1, NONE), 0);
        due.is("pin(1, 3), its first copy", x.pin(1, 3), 0);
        due.is("pin(1, 2), its second copy", x.pin(1, 2), 0);
        due.is("pin(1, 1)", x.pin(1, 1), 1);
        due.moves(x, Due.row(1, 2, 1));
        due.is("pin(1, 1), as before", x.pin(1, 1), 0);
        due.moves(x);
        due.is("pin(1, 0), the same rack", x.pin(1, 0), 1);
        due.moves(x, Due.row(1, 1, 0));
        due.is("pin(1, NONE)", x.pin(1, NONE), 1);
        due.moves(x, Due.row(1, 0, 2));
    }

    private static void pinNoSuch(Due due) {
        StrawDraws x = Houses.small();
        due.are("pin(1, ..)", server -> x.pin(1, server), NO_SUCH, MIN, -7, -5, -2, -1, 4, 11, 12, MAX);
        due.are("pin(.., 0)", object -> x.pin(object, 0), NO_SUCH, MIN, NONE, -1, 0, 4, 10000, MAX);
        due.are("pin(.., NONE)", object -> x.pin(object, NONE), NO_SUCH, MIN, NONE, -1, 0, 4, 10000, MAX);
        x.drop(1);
        due.is("pin(1, 0), dropped", x.pin(1, 0), NO_SUCH);
        StrawDraws full = Houses.full();
        due.is("pin(0, 11)", Math.min(full.pin(0, 11), 0), 0);
        due.is("pin(0, 12)", full.pin(0, 12), NO_SUCH);
        due.is("pin(40, 0)", full.pin(40, 0), NO_SUCH);
    }
}
