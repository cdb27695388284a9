import java.io.IOException;

/** The sentences of the promises 10 to 18 that name a boundary, each with a test of its own. */
public final class EdgesOfAnswersTest {
    private static final int NO_SUCH = StrawDraws.NO_SUCH;
    private static final int BAD_VALUE = StrawDraws.BAD_VALUE;
    private static final int NOT_POSSIBLE = StrawDraws.NOT_POSSIBLE;
    private static final int NONE = StrawDraws.NONE;
    private static final int COPIES = StrawDraws.COPIES;
    private static final int SALT = StrawDraws.SALT;
    private static final int MIN = Edges.MIN;
    private static final int MAX = Edges.MAX;

    private EdgesOfAnswersTest() {
    }

    public static void main(String[] args) throws IOException {
        Edges edges = new Edges();
        ofServerWhat(edges.of("Promise 10", "- `what`: 0 its rack, 1 its weight, 2 whether it is down (1 or 0), 3 its "
                + "load, 4 its fair share, 5 how many first copies it has, 6 how many objects are pinned to it"));
        ofServerNoSuch(edges.of("Promise 10", "NO_SUCH if there is no such server"));
        ofServerBadValue(edges.of("Promise 10", "BAD_VALUE if what is out of range."));

        placeNotKept(edges.of("Promise 11", "Returns the place of a copy of an object (also of one that is not kept, "
                + "which is not pinned)."));
        placeObject(edges.of("Promise 11", "- `object`: 0 to 9999"));
        placeFirst(edges.of("Promise 11", "- `copy`: 0 for the first one"));
        placeBadValue(edges.of("Promise 11", "BAD_VALUE if object is out of range, or copy is below 0"));
        placeNone(edges.of("Promise 11", "NONE if it has no such copy."));

        strawObject(edges.of("Promise 12", "- `object`: 0 to 9999"));
        strawNoSuch(edges.of("Promise 12", "NO_SUCH if there is no such server"));
        strawBadValue(edges.of("Promise 12", "BAD_VALUE if object is out of range"));
        strawNone(edges.of("Promise 12", "NONE if the server does not take part."));

        moveLatest(edges.of("Promise 13", "Returns something about a move of the latest change that matters for "
                + "places."));
        moveWhat(edges.of("Promise 13", "- `what`: 0 the object, 1 the server that has it no more (NONE), 2 the server "
                + "that has it now (NONE)"));
        moveNoSuch(edges.of("Promise 13", "NO_SUCH if there is no such move"));
        moveBadValue(edges.of("Promise 13", "BAD_VALUE if what is out of range."));

        objectPlace(edges.of("Promise 14", "- `place`: its place in their order"));
        objectWhat(edges.of("Promise 14", "- `what`: 0 the object, 1 the server to which it is pinned (NONE), 2 how "
                + "many copies it has"));
        objectNoSuch(edges.of("Promise 14", "NO_SUCH if there is no such place"));
        objectBadValue(edges.of("Promise 14", "BAD_VALUE if what is out of range."));

        countServersAndObjects(edges.of("Promise 15", "0 servers, 1 kept objects, 2 copies of all kept objects"));
        countFewer(edges.of("Promise 15", "3 kept objects with fewer copies than COPIES"));
        countMoves(edges.of("Promise 15", "4 moves"));
        countPart(edges.of("Promise 15", "5 servers that take part, 6 their weights together"));
        countFarthest(edges.of("Promise 15", "7 the server whose load (times 1000) is farthest above its fair share, "
                + "of those that take part"));
        countLowest(edges.of("Promise 15", "of several the lowest one"));
        countNone(edges.of("Promise 15", "(NONE if none takes part)"));
        countSettings(edges.of("Promise 15", "8, 9 the settings"));
        countPad(edges.of("Promise 15", "10 the length of the pad"));
        countUndo(edges.of("Promise 15", "11 how many changes can be undone"));
        countBadValue(edges.of("Promise 15", "BAD_VALUE if what is out of range."));

        movesIf(edges.of("Promise 16", "Tells how many moves there would be if the weight of a server was another "
                + "one."));
        movesIfErrors(edges.of("Promise 16", "errors as for weigh()."));
        nothingChanges(edges.of("Texts", "---- what if; nothing changes."));

        lostWith(edges.of("Promise 17", "Tells how many kept objects would have no copy on a server that is up"));
        lostWithTheSame(edges.of("Promise 17", "(perhaps the same one)"));
        lostBeforeMoves(edges.of("Promise 17", "went down with what they have, before anything moves."));
        lostWithNoSuch(edges.of("Promise 17", "NO_SUCH if there is no such server."));

        bestOfSixteen(edges.of("Promise 18", "Finds the weight of a server, 1 to 16"));
        bestSum(edges.of("Promise 18", "the sum, over all servers that take part, of how far 1000 times their loads "
                + "are from their fair shares would be the least"));
        bestLowest(edges.of("Promise 18", "of several the lowest one."));
        bestNoSuch(edges.of("Promise 18", "NO_SUCH if there is no such server"));
        bestBadValue(edges.of("Promise 18", "BAD_VALUE if what is neither 0 nor 1"));
        bestNotPossible(edges.of("Promise 18", "NOT_POSSIBLE if it is down."));
        edges.end();
    }

    /** Objects with one copy each, that many of them pinned to server 0 and that many to server 1. */
    private static StrawDraws pinnedApart(int toFirst, int toSecond, int firstWeight, int secondWeight) {
        StrawDraws x = Houses.apart(firstWeight, secondWeight);
        x.set(COPIES, 1);
        Houses.storeSome(x, toFirst + toSecond);
        for (int object = 0; object < toFirst + toSecond; object++) {
            x.pin(object, object < toFirst ? 0 : 1);
        }
        return x;
    }

    private static void ofServerWhat(Due due) {
        StrawDraws x = pinnedApart(0, 40, 1, 16);
        int[][] rows = {{0, 1, 0, 0, 2352, 0, 0}, {1, 16, 0, 40, 37647, 40, 40}};
        for (int server = 0; server < 2; server++) {
            for (int what = 0; what <= 6; what++) {
                due.is("ofServer(" + server + ", " + what + ")", x.ofServer(server, what), rows[server][what]);
            }
        }
        x.down(1, true);
        int[][] oneDown = {{0, 1, 0, 40, 40000, 40, 0}, {1, 16, 1, 0, 0, 0, 40}};
        for (int server = 0; server < 2; server++) {
            for (int what = 0; what <= 6; what++) {
                due.is("ofServer(" + server + ", " + what + "), 1 is down", x.ofServer(server, what),
                        oneDown[server][what]);
            }
        }
        x.pin(5, NONE);
        x.drop(6);
        due.is("ofServer(1, 6), one unpinned, one dropped", x.ofServer(1, 6), 38);
        StrawDraws y = Houses.apart(4, 4);
        Houses.storeSome(y, 40);
        y.pin(3, 0);
        y.pin(3, 1);
        due.is("all first copies", y.ofServer(0, 5) + y.ofServer(1, 5), 40);
        due.is("all copies", y.ofServer(0, 3) + y.ofServer(1, 3), 80);
        due.is("ofServer(0, 6), pinned elsewhere", y.ofServer(0, 6), 0);
    }

    private static void ofServerNoSuch(Due due) {
        StrawDraws x = Houses.small();
        due.are("ofServer(.., 0)", server -> x.ofServer(server, 0), NO_SUCH, MIN, NONE, -1, 4, 11, 12, MAX);
        due.are("ofServer(.., 7)", server -> x.ofServer(server, 7), NO_SUCH, MIN, NONE, -1, 4, 11, 12, MAX);
        due.is("ofServer(3, 0), the last one", x.ofServer(3, 0), 2);
        StrawDraws full = Houses.full();
        due.is("ofServer(11, 1)", full.ofServer(11, 1), 3);
        due.is("ofServer(12, 1)", full.ofServer(12, 1), NO_SUCH);
    }

    private static void ofServerBadValue(Due due) {
        StrawDraws x = Houses.small();
        due.are("ofServer(3, ..)", what -> x.ofServer(3, what), BAD_VALUE, MIN, NONE, -1, 7, 8, MAX);
        due.is("ofServer(3, 6), the last one", x.ofServer(3, 6), 0);
    }

    private static void placeNotKept(Due due) {
        // By their straws 3, 2, 1, 0 for the object 1, and 2, 1, 0, 3 for the object 3.
        StrawDraws x = Houses.small();
        x.pin(1, 0);
        due.places(x, 1, 0, 3);
        x.drop(1);
        due.places(x, 1, 3, 2);
        due.places(x, 2, 3, 2);
        due.places(x, 3, 2, 1);
        x.drop(3);
        due.places(x, 3, 2, 1);
        due.is("count(1), none is kept by looking", x.count(1), 3);
        due.is("count(2), none has copies by looking", x.count(2), 6);
        x.set(COPIES, 3);
        due.places(x, 1, 3, 2, 1);
        StrawDraws full = Houses.full();
        due.is("a 41st one", full.place(9999, 2) == NONE ? 1 : 0, 0);
        due.is("count(2), of 40", full.count(2), 120);
    }

    private static void placeObject(Due due) {
        StrawDraws x = Houses.small();
        due.is("place(0, 0)", x.place(0, 0) < 0 ? 1 : 0, 0);
        due.is("place(9999, 0)", x.place(9999, 0), 2);
        x.drop(9999);
        due.is("place(9999, 0), not kept", x.place(9999, 0), 2);
        due.are("place(.., 0)", object -> x.place(object, 0), BAD_VALUE, MIN, NONE, -1, 10000, 10001, MAX);
    }

    private static void placeFirst(Due due) {
        StrawDraws x = Houses.small();
        due.is("place(1, 0)", x.place(1, 0), 3);
        due.is("place(1, 1)", x.place(1, 1), 2);
        due.is("place(5, 0) has the longest straw, not kept", x.straw(x.place(5, 0), 5),
                Math.max(Math.max(x.straw(0, 5), x.straw(1, 5)), Math.max(x.straw(2, 5), x.straw(3, 5))));
    }

    private static void placeBadValue(Due due) {
        StrawDraws x = Houses.small();
        due.are("place(1, ..)", copy -> x.place(1, copy), BAD_VALUE, MIN, NONE, -2, -1);
        due.are("place(5, ..), not kept", copy -> x.place(5, copy), BAD_VALUE, MIN, NONE, -2, -1);
        due.are("place(.., 2)", object -> x.place(object, 2), BAD_VALUE, MIN, NONE, -1, 10000, MAX);
        due.is("place(-1, -1)", x.place(-1, -1), BAD_VALUE);
        due.is("place(10000, MAX)", x.place(10000, MAX), BAD_VALUE);
        StrawDraws empty = new StrawDraws();
        due.are("place(.., 0), no servers", object -> empty.place(object, 0), BAD_VALUE, MIN, -1, 10000, MAX);
        due.is("place(0, -1), no servers", empty.place(0, -1), BAD_VALUE);
    }

    private static void placeNone(Due due) {
        StrawDraws x = Houses.small();
        due.are("place(1, ..)", copy -> x.place(1, copy), NONE, 2, 3, 4, 1000, MAX);
        due.are("place(5, ..), not kept", copy -> x.place(5, copy), NONE, 2, 3, 4, 1000, MAX);
        x.set(COPIES, 3);
        due.are("place(1, ..), COPIES 3", copy -> x.place(1, copy), NONE, 3, 4, 1000, MAX);
        due.are("place(5, ..), COPIES 3, not kept", copy -> x.place(5, copy), NONE, 3, 4, 1000, MAX);
        x.set(COPIES, 1);
        due.are("place(1, ..), COPIES 1", copy -> x.place(1, copy), NONE, 1, 2, 3, MAX);
        due.are("place(5, ..), COPIES 1, not kept", copy -> x.place(5, copy), NONE, 1, 2, 3, MAX);
        for (int server = 0; server < 4; server++) {
            x.down(server, true);
        }
        due.are("place(1, ..), all down", copy -> x.place(1, copy), NONE, 0, 1, 2, 3, MAX);
        due.are("place(5, ..), all down, not kept", copy -> x.place(5, copy), NONE, 0, 1, 2, 3, MAX);
    }

    private static void strawObject(Due due) {
        StrawDraws x = new StrawDraws();
        for (int server = 0; server < 12; server++) {
            x.server(0, server + 5);
        }
        x.set(SALT, 999);
        for (int server = 0; server < 12; server++) {
            due.is("straw(" + server + ", 0)", x.straw(server, 0), Drawn.longest(0, 999, server, server + 5));
            due.is("straw(" + server + ", 9999)", x.straw(server, 9999),
                    Drawn.longest(9999, 999, server, server + 5));
        }
    }

    private static void strawNoSuch(Due due) {
        StrawDraws x = Houses.small();
        due.are("straw(.., 1)", server -> x.straw(server, 1), NO_SUCH, MIN, NONE, -1, 4, 11, 12, MAX);
        due.are("straw(.., -1)", server -> x.straw(server, -1), NO_SUCH, MIN, NONE, -1, 4, 11, 12, MAX);
        due.is("straw(3, 1), the last one", x.straw(3, 1), 1634791592);
        StrawDraws full = Houses.full();
        due.is("straw(11, 1)", full.straw(11, 1), Drawn.longest(1, 0, 11, 3));
        due.is("straw(12, 1)", full.straw(12, 1), NO_SUCH);
    }

    private static void strawBadValue(Due due) {
        StrawDraws x = Houses.small();
        due.are("straw(3, ..)", object -> x.straw(3, object), BAD_VALUE, MIN, NONE, -1, 10000, 10001, MAX);
        x.down(3, true);
        x.weigh(2, 0);
        due.are("straw(3, ..), down", object -> x.straw(3, object), BAD_VALUE, MIN, NONE, -1, 10000, MAX);
        due.are("straw(2, ..), weight 0", object -> x.straw(2, object), BAD_VALUE, MIN, NONE, -1, 10000, MAX);
    }

    private static void strawNone(Due due) {
        StrawDraws x = Houses.small();
        x.down(3, true);
        x.weigh(2, 0);
        x.weigh(1, 0);
        x.down(1, true);
        for (int server = 1; server < 4; server++) {
            due.is("straw(" + server + ", 1)", x.straw(server, 1), NONE);
            due.is("straw(" + server + ", 77), not kept", x.straw(server, 77), NONE);
        }
        x.down(3, false);
        due.is("straw(3, 1), up again", x.straw(3, 1), 1634791592);
        x.weigh(2, 1);
        due.is("straw(2, 1), the weight 1", x.straw(2, 1), Drawn.straw(1, 0, 2, 0));
    }

    private static void moveLatest(Due due) {
        StrawDraws x = Houses.small();
        due.moves(x);
        x.set(SALT, 999);
        due.moves(x, Due.row(1, 2, 0), Due.row(2, 3, 1), Due.row(9999, 1, 3));
        x.drop(2);
        x.store(0);
        due.moves(x, Due.row(1, 2, 0), Due.row(2, 3, 1), Due.row(9999, 1, 3));
        x.undo();
        x.undo();
        due.moves(x, Due.row(1, 2, 0), Due.row(2, 3, 1), Due.row(9999, 1, 3));
        x.undo();
        due.moves(x);
        x.set(SALT, 999);
        x.server(5, 0);
        due.moves(x);
    }

    private static void moveWhat(Due due) {
        StrawDraws x = Houses.apart(1);
        x.store(9999);
        x.down(0, true);
        due.is("move(0, 0)", x.move(0, 0), 9999);
        due.is("move(0, 1)", x.move(0, 1), 0);
        due.is("move(0, 2), none has it", x.move(0, 2), NONE);
        x.down(0, false);
        due.is("move(0, 0), up", x.move(0, 0), 9999);
        due.is("move(0, 1), none had it", x.move(0, 1), NONE);
        due.is("move(0, 2), up", x.move(0, 2), 0);
    }

    private static void moveNoSuch(Due due) {
        StrawDraws x = new StrawDraws();
        due.are("move(.., 0), no change", move -> x.move(move, 0), NO_SUCH, MIN, NONE, -1, 0, 1, MAX);
        StrawDraws y = Houses.small();
        y.set(COPIES, 1);
        due.is("move(4, 0), the last one", y.move(4, 0), 9999);
        due.are("move(.., 0), five", move -> y.move(move, 0), NO_SUCH, MIN, NONE, -1, 5, 6, 120, MAX);
        due.are("move(.., 3), five", move -> y.move(move, 3), NO_SUCH, MIN, NONE, -1, 5, 6, 120, MAX);
        y.set(COPIES, 1);
        due.are("move(.., 0), none any more", move -> y.move(move, 0), NO_SUCH, -1, 0, 4, 5);
    }

    private static void moveBadValue(Due due) {
        StrawDraws x = Houses.small();
        x.set(COPIES, 1);
        due.are("move(0, ..)", what -> x.move(0, what), BAD_VALUE, MIN, NONE, -1, 3, 4, MAX);
        due.are("move(4, ..)", what -> x.move(4, what), BAD_VALUE, MIN, NONE, -1, 3, 4, MAX);
    }

    private static void objectPlace(Due due) {
        StrawDraws x = new StrawDraws();
        for (int object = 39; object >= 0; object--) {
            x.store(object * 256);
        }
        for (int place = 0; place < 40; place++) {
            due.is("object(" + place + ", 0)", x.object(place, 0), place * 256);
        }
        x.drop(0);
        x.drop(39 * 256);
        due.is("object(0, 0), the first one dropped", x.object(0, 0), 256);
        due.is("object(37, 0), the last one dropped", x.object(37, 0), 38 * 256);
        due.is("object(38, 0), the last one dropped", x.object(38, 0), NO_SUCH);
    }

    private static void objectWhat(Due due) {
        StrawDraws x = new StrawDraws();
        x.store(9999);
        due.is("object(0, 0)", x.object(0, 0), 9999);
        due.is("object(0, 1), not pinned", x.object(0, 1), NONE);
        due.is("object(0, 2), no copies", x.object(0, 2), 0);
        for (int server = 0; server < 12; server++) {
            x.server(server % 6, 1);
        }
        x.set(COPIES, 3);
        x.pin(9999, 11);
        due.is("object(0, 1), the last server", x.object(0, 1), 11);
        due.is("object(0, 2), the most copies", x.object(0, 2), 3);
        x.down(11, true);
        due.is("object(0, 1), down", x.object(0, 1), 11);
        x.pin(9999, 0);
        due.is("object(0, 1), the first server", x.object(0, 1), 0);
    }

    private static void objectNoSuch(Due due) {
        StrawDraws x = new StrawDraws();
        due.are("object(.., 0), none", place -> x.object(place, 0), NO_SUCH, MIN, NONE, -1, 0, 1, MAX);
        x.store(7);
        due.is("object(0, 0)", x.object(0, 0), 7);
        due.are("object(.., 0), one", place -> x.object(place, 0), NO_SUCH, MIN, NONE, -1, 1, 7, MAX);
        due.are("object(.., 3), one", place -> x.object(place, 3), NO_SUCH, MIN, NONE, -1, 1, 7, MAX);
        StrawDraws full = Houses.full();
        due.is("object(39, 0)", full.object(39, 0), 39);
        due.is("object(40, 0)", full.object(40, 0), NO_SUCH);
    }

    private static void objectBadValue(Due due) {
        StrawDraws x = Houses.small();
        due.are("object(0, ..)", what -> x.object(0, what), BAD_VALUE, MIN, NONE, -1, 3, 4, MAX);
        due.are("object(4, ..)", what -> x.object(4, what), BAD_VALUE, MIN, NONE, -1, 3, 4, MAX);
    }

    private static void countServersAndObjects(Due due) {
        StrawDraws x = new StrawDraws();
        due.are("count(..), none", x::count, 0, 0, 1, 2);
        StrawDraws full = Houses.full();
        due.is("count(0), the most", full.count(0), 12);
        due.is("count(1), the most", full.count(1), 40);
        due.is("count(2), the most", full.count(2), 120);
        full.place(5000, 0);
        due.is("count(2), one looked at", full.count(2), 120);
        full.down(0, true);
        full.weigh(1, 0);
        due.is("count(0), some take no part", full.count(0), 12);
    }

    private static void countFewer(Due due) {
        StrawDraws x = new StrawDraws();
        due.is("count(3), none is kept", x.count(3), 0);
        Houses.storeSome(x, 40);
        due.is("count(3), no copies", x.count(3), 40);
        x.server(0, 1);
        due.is("count(3), one of two", x.count(3), 40);
        x.server(1, 1);
        due.is("count(3), two of two", x.count(3), 0);
        x.set(COPIES, 3);
        due.is("count(3), two of three", x.count(3), 40);
        x.set(COPIES, 1);
        due.is("count(3), one of one", x.count(3), 0);
        x.down(0, true);
        x.down(1, true);
        due.is("count(3), none of one", x.count(3), 40);
    }

    private static void countMoves(Due due) {
        StrawDraws x = new StrawDraws();
        due.is("count(4), no change", x.count(4), 0);
        StrawDraws full = Houses.full();
        full.set(COPIES, 1);
        due.is("count(4), 80", full.count(4), 80);
        full.drop(3);
        due.is("count(4), one dropped", full.count(4), 80);
        full.set(COPIES, 3);
        due.is("count(4), 78", full.count(4), 78);
        full.server(0, 0);
        due.is("count(4), refused", full.count(4), 78);
        full.set(COPIES, 3);
        due.is("count(4), nothing moves", full.count(4), 0);
    }

    private static void countPart(Due due) {
        StrawDraws x = new StrawDraws();
        due.are("count(..), no servers", x::count, 0, 5, 6);
        for (int server = 0; server < 12; server++) {
            x.server(0, 16);
        }
        due.is("count(5), the most", x.count(5), 12);
        due.is("count(6), the most", x.count(6), 192);
        x.down(0, true);
        x.weigh(11, 0);
        x.weigh(10, 1);
        due.is("count(5), one down, one without weight", x.count(5), 10);
        due.is("count(6), one down, one without weight", x.count(6), 145);
        for (int server = 1; server < 12; server++) {
            x.down(server, true);
        }
        due.are("count(..), all down", x::count, 0, 5, 6);
    }

    private static void countFarthest(Due due) {
        StrawDraws x = pinnedApart(8, 13, 16, 16);
        // 21000 / 2: 8000 - 10500 and 13000 - 10500.
        due.is("count(7), the second one", x.count(7), 1);
        x.movesIf(1, 0);
        due.is("count(7), after movesIf()", x.count(7), 1);
        x.weigh(0, 4);
        // 4200 and 16800.
        due.is("count(7), the first one", x.count(7), 0);
        x.down(0, true);
        // Server 0 would be as far above its share of 0 as server 1 is.
        due.is("count(7), the first one is down", x.count(7), 1);
        x.down(0, false);
        x.weigh(0, 0);
        due.is("count(7), the first one weighs nothing", x.count(7), 1);
        // 10000 - 7000 and 2000 - 5000: the first one has the larger share, too.
        due.is("count(7), the larger share", pinnedApart(10, 2, 7, 5).count(7), 0);
        StrawDraws y = Houses.apart(16, 1);
        y.store(1);
        due.is("count(7), the load and not the weight", y.count(7), 1);
        y.weigh(0, 1);
        y.weigh(1, 16);
        due.is("count(7), the load and not the weight", y.count(7), 0);
    }

    private static void countLowest(Due due) {
        StrawDraws x = Houses.apart(0, 5, 5, 5);
        due.is("count(7), no objects", x.count(7), 1);
        x.set(COPIES, 3);
        Houses.storeSome(x, 7);
        due.is("count(7), all even", x.count(7), 1);
        x.weigh(1, 16);
        due.is("count(7), two are even", x.count(7), 2);
        x.down(2, true);
        due.is("count(7), one is above", x.count(7), 3);
    }

    private static void countNone(Due due) {
        StrawDraws x = new StrawDraws();
        due.is("count(7), no servers", x.count(7), NONE);
        x.server(0, 0);
        due.is("count(7), the weight 0", x.count(7), NONE);
        x.store(5);
        due.is("count(7), an object", x.count(7), NONE);
        x.weigh(0, 1);
        due.is("count(7), the weight 1", x.count(7), 0);
        x.down(0, true);
        due.is("count(7), down", x.count(7), NONE);
    }

    private static void countSettings(Due due) {
        StrawDraws x = new StrawDraws();
        x.set(COPIES, 3);
        x.set(SALT, 999);
        due.is("count(8), the most", x.count(8), 3);
        due.is("count(9), the most", x.count(9), 999);
        x.set(COPIES, 1);
        x.set(SALT, 0);
        due.is("count(8), the least", x.count(8), 1);
        due.is("count(9), the least", x.count(9), 0);
    }

    private static void countPad(Due due) {
        StrawDraws x = new StrawDraws();
        due.is("count(10), empty", x.count(10), 0);
        Due.putText(x, "+1;".repeat(20));
        due.is("count(10), full", x.count(10), 60);
        x.put('+');
        due.is("count(10), refused", x.count(10), 60);
        x.wipe();
        due.is("count(10), wiped", x.count(10), 0);
    }

    private static void countUndo(Due due) {
        StrawDraws x = new StrawDraws();
        for (int changes = 0; changes <= 20; changes++) {
            due.is("count(11), " + changes + " changes", x.count(11), Math.min(changes, 6));
            x.store(changes);
        }
        x.undo();
        due.is("count(11), undone", x.count(11), 5);
    }

    private static void countBadValue(Due due) {
        StrawDraws x = Houses.small();
        due.are("count(..)", x::count, BAD_VALUE, MIN, NONE, -1, 12, 13, MAX);
        due.is("count(0), the first one", x.count(0), 4);
        due.is("count(11), the last one", x.count(11), 6);
    }

    private static void movesIf(Due due) {
        StrawDraws x = Houses.apart(4, 4);
        due.is("movesIf(0, 0), no objects", x.movesIf(0, 0), 0);
        Houses.storeSome(x, 40);
        due.is("movesIf(0, 4), as it is", x.movesIf(0, 4), 0);
        due.is("movesIf(0, 0)", x.movesIf(0, 0), 40);
        due.is("movesIf(0, 1)", x.movesIf(0, 1), 0);
        due.is("movesIf(0, 16)", x.movesIf(0, 16), 0);
        x.weigh(0, 0);
        due.is("movesIf(0, 0), as it is", x.movesIf(0, 0), 0);
        due.is("movesIf(0, 1), from nothing", x.movesIf(0, 1), 40);
        due.is("movesIf(0, 16), from nothing", x.movesIf(0, 16), 40);
        x.down(0, true);
        due.is("movesIf(0, 16), down", x.movesIf(0, 16), 0);
        due.is("count(4), of down()", x.count(4), 0);
        for (int weight = 0; weight <= 16; weight++) {
            StrawDraws y = Houses.full();
            due.is("as many as weigh(11, " + weight + ")", y.movesIf(11, weight), y.weigh(11, weight));
        }
    }

    private static void movesIfErrors(Due due) {
        StrawDraws x = Houses.small();
        due.are("movesIf(.., 1)", server -> x.movesIf(server, 1), NO_SUCH, MIN, NONE, -1, 4, 11, 12, MAX);
        due.are("movesIf(.., 17)", server -> x.movesIf(server, 17), NO_SUCH, MIN, NONE, -1, 4, 11, 12, MAX);
        due.are("movesIf(3, ..)", weight -> x.movesIf(3, weight), BAD_VALUE, MIN, NONE, -1, 17, 18, MAX);
        StrawDraws full = Houses.full();
        due.is("movesIf(11, 3)", full.movesIf(11, 3), 0);
        due.is("movesIf(12, 3)", full.movesIf(12, 3), NO_SUCH);
    }

    private static void busy(StrawDraws x) {
        x.server(0, 4);
        x.server(1, 3);
        x.server(2, 2);
        x.store(5);
        x.store(9);
        x.store(7);
        x.save(0);
        x.set(SALT, 999);
        x.save(1);
        Due.putText(x, "+1;d0");
        x.pin(7, 1);
    }

    private static void nothingChanges(Due due) {
        String untouched = Looks.everything(EdgesOfAnswersTest::busy);
        String asked = Looks.everything(x -> {
            busy(x);
            for (int server = 0; server < 3; server++) {
                x.movesIf(server, 0);
                x.movesIf(server, 16);
                x.lostWith(server, server);
                x.lostWith(server, 0);
                x.bestWeight(server, 0);
                x.bestWeight(server, 1);
            }
        });
        due.is("all is as it was", asked.equals(untouched) ? 1 : 0, 1);
    }

    private static void lostWith(Due due) {
        StrawDraws x = Houses.apart(4, 4, 4);
        due.is("lostWith(0, 1), no objects", x.lostWith(0, 1), 0);
        x.set(COPIES, 3);
        Houses.storeSome(x, 40);
        due.is("lostWith(0, 1), a third copy", x.lostWith(0, 1), 0);
        x.down(2, true);
        due.is("lostWith(0, 1), all", x.lostWith(0, 1), 40);
        due.is("lostWith(1, 0), all", x.lostWith(1, 0), 40);
        due.is("lostWith(0, 2), the other one is down already", x.lostWith(0, 2), 0);
        x.down(1, true);
        due.is("lostWith(0, 2), the last copies", x.lostWith(0, 2), 40);
        due.is("lostWith(1, 2), both down already", x.lostWith(1, 2), 0);
        x.down(0, true);
        due.is("lostWith(1, 2), no copies at all", x.lostWith(1, 2), 40);
        due.is("lostWith(0, 0), no copies at all", x.lostWith(0, 0), 40);
    }

    private static void lostWithTheSame(Due due) {
        StrawDraws x = pinnedApart(3, 5, 4, 4);
        due.is("lostWith(0, 0)", x.lostWith(0, 0), 3);
        due.is("lostWith(1, 1)", x.lostWith(1, 1), 5);
        due.is("lostWith(0, 1)", x.lostWith(0, 1), 8);
        x.set(COPIES, 2);
        due.is("lostWith(0, 0), two copies", x.lostWith(0, 0), 0);
        StrawDraws full = Houses.full();
        full.set(COPIES, 1);
        int lost = 0;
        for (int server = 0; server < 12; server++) {
            lost += full.lostWith(server, server);
        }
        due.is("each one of 40 with one server", lost, 40);
        full.pin(7, 11);
        due.is("lostWith(11, 11) is its load", full.lostWith(11, 11), full.ofServer(11, 3));
    }

    private static void lostBeforeMoves(Due due) {
        // The third server could take what the others lose, but only by a move.
        StrawDraws x = Houses.apart(4, 4, 4);
        x.set(COPIES, 1);
        x.store(1);
        x.pin(1, 0);
        int moves = x.count(4);
        due.is("lostWith(0, 1)", x.lostWith(0, 1), 1);
        due.is("lostWith(1, 2)", x.lostWith(1, 2), 0);
        due.is("ofServer(0, 2)", x.ofServer(0, 2), 0);
        due.is("count(4)", x.count(4), moves);
        due.places(x, 1, 0);
    }

    private static void lostWithNoSuch(Due due) {
        StrawDraws x = Houses.small();
        due.are("lostWith(.., 0)", server -> x.lostWith(server, 0), NO_SUCH, MIN, NONE, -1, 4, 11, 12, 32, MAX);
        due.are("lostWith(0, ..)", server -> x.lostWith(0, server), NO_SUCH, MIN, NONE, -1, 4, 11, 12, 32, MAX);
        due.are("lostWith(.., ..)", server -> x.lostWith(server, server), NO_SUCH, MIN, NONE, -1, 4, 12, 32, MAX);
        due.is("lostWith(3, 3), the last one", x.lostWith(3, 3), 0);
        StrawDraws full = Houses.full();
        due.is("lostWith(11, 12)", full.lostWith(11, 12), NO_SUCH);
        due.is("lostWith(12, 11)", full.lostWith(12, 11), NO_SUCH);
    }

    private static void bestOfSixteen(Due due) {
        // The less it weighs, the better: 40000 / 17 and 640000 / 17, but the weight 0 is none of them.
        StrawDraws x = pinnedApart(0, 40, 9, 16);
        due.is("bestWeight(0, 0), the least", x.bestWeight(0, 0), 1);
        due.is("bestWeight(0, 1), the least", x.bestWeight(0, 1), 4705);
        // The more it weighs, the better: 640000 / 32.
        due.is("bestWeight(1, 0), the most", pinnedApart(0, 40, 16, 9).bestWeight(1, 0), 16);
        due.is("bestWeight(1, 1), the most", pinnedApart(0, 40, 16, 9).bestWeight(1, 1), 40000);
        x.weigh(0, 0);
        due.is("bestWeight(0, 0), without weight", x.bestWeight(0, 0), 1);
        due.is("ofServer(0, 1), still without", x.ofServer(0, 1), 0);
    }

    private static void bestSum(Due due) {
        StrawDraws x = new StrawDraws();
        x.server(0, 9);
        due.is("bestWeight(0, 1), no objects", x.bestWeight(0, 1), 0);
        Houses.storeSome(x, 40);
        due.is("bestWeight(0, 1), all on it", x.bestWeight(0, 1), 0);
        x.server(1, 7);
        due.is("bestWeight(0, 0), both alike", x.bestWeight(0, 0), 7);
        due.is("bestWeight(0, 1), both alike", x.bestWeight(0, 1), 0);
        x.server(2, 3);
        x.set(COPIES, 3);
        x.down(2, true);
        // One that is down has neither a load nor a share, and its weight does not count.
        due.is("bestWeight(0, 0), one down", x.bestWeight(0, 0), 7);
        due.is("bestWeight(0, 1), one down", x.bestWeight(0, 1), 0);
        x.down(2, false);
        // With the weight 5 the shares are 40000, 56000 and 24000, and each load is 40000.
        due.is("bestWeight(0, 0), three", x.bestWeight(0, 0), 5);
        due.is("bestWeight(0, 1), three", x.bestWeight(0, 1), 32000);
        // Here the loads are other ones with other weights.
        StrawDraws y = Houses.small();
        int[][] best = {{1, 4572}, {1, 7111}, {7, 5715}, {6, 5999}};
        for (int server = 0; server < 4; server++) {
            due.is("bestWeight(" + server + ", 0)", y.bestWeight(server, 0), best[server][0]);
            due.is("bestWeight(" + server + ", 1)", y.bestWeight(server, 1), best[server][1]);
            StrawDraws weighed = Houses.small();
            weighed.weigh(server, best[server][0]);
            int sum = 0;
            for (int each = 0; each < 4; each++) {
                sum += Math.abs(1000 * weighed.ofServer(each, 3) - weighed.ofServer(each, 4));
            }
            due.is("the sum when it is weighed so", sum, best[server][1]);
        }
    }

    private static void bestLowest(Due due) {
        StrawDraws x = Houses.apart(16);
        x.store(1);
        due.is("bestWeight(0, 0), all alike", x.bestWeight(0, 0), 1);
        // 8 and 13 objects: with the weight 2 the shares are 7000 and 14000, with 3 they are 9000 and 12000.
        StrawDraws y = pinnedApart(8, 13, 9, 4);
        due.is("bestWeight(0, 0), two alike", y.bestWeight(0, 0), 2);
        due.is("bestWeight(0, 1), two alike", y.bestWeight(0, 1), 2000);
    }

    private static void bestNoSuch(Due due) {
        StrawDraws x = Houses.small();
        due.are("bestWeight(.., 0)", server -> x.bestWeight(server, 0), NO_SUCH, MIN, NONE, -1, 4, 11, 12, MAX);
        due.are("bestWeight(.., 2)", server -> x.bestWeight(server, 2), NO_SUCH, MIN, NONE, -1, 4, 11, 12, MAX);
        due.is("bestWeight(3, 0), the last one", x.bestWeight(3, 0) >= 1 ? 1 : 0, 1);
        StrawDraws full = Houses.full();
        due.is("bestWeight(11, 0)", full.bestWeight(11, 0) >= 1 ? 1 : 0, 1);
        due.is("bestWeight(12, 0)", full.bestWeight(12, 0), NO_SUCH);
    }

    private static void bestBadValue(Due due) {
        StrawDraws x = Houses.small();
        due.are("bestWeight(3, ..)", what -> x.bestWeight(3, what), BAD_VALUE, MIN, NONE, -1, 2, 3, MAX);
        x.down(3, true);
        due.are("bestWeight(3, ..), down", what -> x.bestWeight(3, what), BAD_VALUE, MIN, NONE, -1, 2, 3, MAX);
    }

    private static void bestNotPossible(Due due) {
        StrawDraws x = Houses.small();
        x.down(3, true);
        due.are("bestWeight(3, ..), down", what -> x.bestWeight(3, what), NOT_POSSIBLE, 0, 1);
        x.weigh(3, 0);
        due.are("bestWeight(3, ..), down without weight", what -> x.bestWeight(3, what), NOT_POSSIBLE, 0, 1);
        x.down(3, false);
        due.is("bestWeight(3, 0), up without weight", x.bestWeight(3, 0) >= 1 ? 1 : 0, 1);
    }
}
