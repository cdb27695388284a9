import java.io.IOException;

/** The sentences ahead of the promises that name a boundary, each with a test of its own. */
public final class EdgesOfTermsTest {
    private static final int NO_SUCH = StrawDraws.NO_SUCH;
    private static final int BAD_VALUE = StrawDraws.BAD_VALUE;
    private static final int BAD_TEXT = StrawDraws.BAD_TEXT;
    private static final int TOO_MANY = StrawDraws.TOO_MANY;
    private static final int NOT_POSSIBLE = StrawDraws.NOT_POSSIBLE;
    private static final int NONE = StrawDraws.NONE;
    private static final int COPIES = StrawDraws.COPIES;
    private static final int SALT = StrawDraws.SALT;
    private static final int MIN = Edges.MIN;
    private static final int MAX = Edges.MAX;

    private EdgesOfTermsTest() {
    }

    public static void main(String[] args) throws IOException {
        Edges edges = new Edges();
        lastCall(edges.of("What it is", "An object is used for at most 512 calls after it has been made"));
        errorsInOrder(edges.of("Terms", "it names its errors in the order in which they are checked, and the first "
                + "one that applies is returned"));
        refusedCalls(edges.of("Terms", "A call that returns an error changes nothing."));
        noneIsNoError(edges.of("Terms", "NONE (-6) is not an error; it is returned only if no error applies."));
        numberedFromNought(edges.of("Terms", "Everything is numbered from 0."));
        roundedDown(edges.of("Terms", "Divisions are rounded down."));
        copies(edges.of("Settings", "COPIES (1 to 3; 2)."));
        salt(edges.of("Settings", "SALT (0 to 999; 0)."));
        twelveServers(edges.of("Settings", "There are up to 12 servers, 0 to 11, numbered in the order in which they "
                + "were built; they stay."));
        racksAndWeights(edges.of("Settings", "A server is in a rack (0 to 5), has a weight (0 to 16), and is up (at "
                + "first) or down."));
        strawsOfAWeight(edges.of("Settings", "For an object (0 to 9999) the server s draws the straws 0 to its weight "
                + "less 1."));
        seeds(edges.of("Settings", "x is 1000 * the object, and SALT; then x is stirred"));
        wrapsAround(edges.of("Settings", "x becomes (x * 1103515245 + 12345) left over by 2147483648."));
        standsAbove(edges.of("Settings", "A server stands above another one for an object if its straw is longer"));
        takesNoPart(edges.of("Settings", "A server that is down, or has the weight 0, does not take part."));
        fortyObjects(edges.of("Places", "Up to 40 objects are kept, in ascending order."));
        upToCopies(edges.of("Places", "The places of an object are up to COPIES servers, the first copy first"));
        pinned(edges.of("Places", "if it is pinned to a server that takes part, this server is the place of the first "
                + "copy"));
        goneThrough(edges.of("Places", "each one whose rack has no place so far becomes the place of the next copy, "
                + "until there are COPIES."));
        unlikeRacks(edges.of("Places", "no two copies are in the same rack."));
        whatMatters(edges.of("Moves", "(a setting, a server, a pin; not when objects are stored or dropped)"));
        movesInOrder(edges.of("Moves", "for each kept object in ascending order: the servers that had a copy of it and "
                + "have none any more, in ascending order, and the servers that have a copy and had none, in ascending "
                + "order"));
        oneRowIsLonger(edges.of("Moves", "(where one of both rows is longer, the other server of the move is NONE)"));
        movesAreKept(edges.of("Moves", "They are kept until the next change of this kind (a change of this kind by "
                + "which nothing moves leaves none)."));
        loads(edges.of("Loads", "The load of a server is how many copies of kept objects it has."));
        shares(edges.of("Loads", "1000 * (all copies of kept objects) * its weight / the weights of all servers that "
                + "take part (0 if it does not take part)."));
        sixtyCharacters(edges.of("Texts", "The pad is a text of at most 60 characters, a row of orders"));
        rowsOfOrders(edges.of("Texts", "text = order { \";\" order }"));
        orders(edges.of("Texts", "order = \"+\" number | \"-\" number | \"w\" number \"=\" number | \"d\" number | "
                + "\"u\" number | \"p\" number \"@\" ( number | \"-\" )"));
        pinToNone(edges.of("Texts", "\"p\": pin() of an object to a server (\"-\": to none)."));
        numbers(edges.of("Texts", "A number is 0 to 9999, without leading zeros."));
        digitTooMany(edges.of("Texts", "(also of a digit by which a number would be above 9999)"));
        endsTooEarly(edges.of("Texts", "if there is none and the text ends too early (also if it is empty), it is the "
                + "length of the text."));
        edges.end();
    }

    private static void lastCall(Due due) {
        StrawDraws x = Houses.full();
        for (int salt = 1; salt <= 458; salt++) {
            x.set(SALT, salt);
        }
        StrawDraws y = Houses.full();
        y.set(SALT, 458);
        due.is("the 512th call, bestWeight(11, 1)", x.bestWeight(11, 1), y.bestWeight(11, 1));
        StrawDraws z = new StrawDraws();
        for (int object = 0; object < 255; object++) {
            z.store(object);
            z.drop(object);
        }
        due.is("the 511th call, store(7)", z.store(7), 0);
        due.is("the 512th call, undo()", z.undo(), 5);
    }

    private static void errorsInOrder(Due due) {
        StrawDraws x = Houses.full();
        due.is("server(6, 1), there are 12", x.server(6, 1), BAD_VALUE);
        due.is("server(1, 17), there are 12", x.server(1, 17), BAD_VALUE);
        due.is("weigh(12, 17)", x.weigh(12, 17), NO_SUCH);
        due.is("toRack(12, 6)", x.toRack(12, 6), NO_SUCH);
        due.is("store(10000), there are 40", x.store(10000), BAD_VALUE);
        due.is("store(0), there are 40, and it is kept", x.store(0), TOO_MANY);
        due.is("ofServer(12, 7)", x.ofServer(12, 7), NO_SUCH);
        due.is("straw(12, 10000)", x.straw(12, 10000), NO_SUCH);
        due.is("move(0, 3), there is none", x.move(0, 3), NO_SUCH);
        due.is("object(40, 3)", x.object(40, 3), NO_SUCH);
        due.is("movesIf(12, 17)", x.movesIf(12, 17), NO_SUCH);
        due.is("bestWeight(12, 2)", x.bestWeight(12, 2), NO_SUCH);
        x.down(11, true);
        due.is("bestWeight(11, 2), which is down", x.bestWeight(11, 2), BAD_VALUE);
        due.is("restore(2), nothing is saved", x.restore(2), BAD_VALUE);
        Due.putText(x, "+1;+2;+3;+4;+5;+6;+7;+8;+9;+10;+11;+12;+13;+14;+15;+16;+17;1");
        due.is("put(0), the pad is full", x.put(0), BAD_VALUE);
        due.is("put of a space, the pad is full", x.put(' '), BAD_VALUE);
    }

    /** Three servers, three objects, moves, a pad, two slots and six states to go back to. */
    private static void busy(StrawDraws x) {
        x.server(0, 4);
        x.server(1, 3);
        x.server(2, 2);
        x.store(5);
        x.store(9);
        x.store(7);
        x.pin(7, 1);
        x.save(0);
        x.set(SALT, 999);
        x.save(1);
        Due.putText(x, "+1;d0");
        x.down(2, true);
    }

    private static void fullPad(StrawDraws x) {
        busy(x);
        Due.putText(x, ";w0=1;w0=2;w0=3;w0=4;w0=5;w0=6;w0=7;w0=8;p5@0;p7@0;p9@0");
    }

    private static void faultyPad(StrawDraws x) {
        busy(x);
        x.put(';');
    }

    private static void fullHouse(StrawDraws x) {
        x.set(COPIES, 3);
        for (int server = 0; server < 12; server++) {
            x.server(server % 6, 3);
        }
        Houses.storeSome(x, 40);
    }

    private static void nothing(StrawDraws x) {
        x.count(0);
    }

    private interface Refused {
        int by(StrawDraws x);
    }

    private static void refused(Due due, Looks.Calls before, int error, Refused... calls) {
        String untouched = Looks.everything(before);
        for (int i = 0; i < calls.length; i++) {
            Refused call = calls[i];
            String name = "call " + i + " that is refused with " + error;
            String after = Looks.everything(x -> {
                before.on(x);
                due.is(name, call.by(x), error);
            });
            due.is(name + " changes nothing", after.equals(untouched) ? 1 : 0, 1);
        }
    }

    private static void refusedCalls(Due due) {
        refused(due, EdgesOfTermsTest::busy, NO_SUCH, x -> x.weigh(3, 1), x -> x.weigh(-1, 1), x -> x.toRack(3, 1),
                x -> x.toRack(-1, 1), x -> x.down(3, true), x -> x.down(-1, true), x -> x.drop(6), x -> x.drop(-1),
                x -> x.pin(6, 0), x -> x.pin(5, 3), x -> x.pin(5, -1), x -> x.ofServer(3, 0), x -> x.move(99, 0),
                x -> x.move(-1, 0), x -> x.object(3, 0), x -> x.object(-1, 0), x -> x.straw(3, 5),
                x -> x.movesIf(3, 1), x -> x.movesIf(-1, 1), x -> x.lostWith(0, 3), x -> x.lostWith(3, 0),
                x -> x.bestWeight(3, 0));
        refused(due, EdgesOfTermsTest::busy, BAD_VALUE, x -> x.set(COPIES, 0), x -> x.set(COPIES, 4),
                x -> x.set(SALT, -1), x -> x.set(SALT, 1000), x -> x.set(2, 1), x -> x.set(-1, 1),
                x -> x.server(6, 1), x -> x.server(-1, 1), x -> x.server(1, 17), x -> x.server(1, -1),
                x -> x.weigh(0, 17), x -> x.weigh(0, -1), x -> x.toRack(0, 6), x -> x.toRack(0, -1),
                x -> x.store(10000), x -> x.store(-1), x -> x.ofServer(0, 7), x -> x.place(10000, 0),
                x -> x.place(5, -1), x -> x.straw(0, 10000), x -> x.move(0, 3), x -> x.object(0, 3),
                x -> x.count(12), x -> x.movesIf(0, 17), x -> x.movesIf(0, -1), x -> x.bestWeight(0, 2),
                x -> x.put(0), x -> x.put(0x2b20), x -> x.put(0x2b0031), x -> x.save(2), x -> x.save(-1),
                x -> x.restore(2), x -> x.restore(-1));
        refused(due, EdgesOfTermsTest::busy, NOT_POSSIBLE, x -> x.down(0, false), x -> x.down(2, true),
                x -> x.store(5), x -> x.bestWeight(2, 0));
        refused(due, EdgesOfTermsTest::nothing, NOT_POSSIBLE, StrawDraws::undo, x -> x.restore(0), x -> x.restore(1));
        refused(due, EdgesOfTermsTest::fullHouse, TOO_MANY, x -> x.server(0, 1), x -> x.store(40), x -> x.store(0));
        refused(due, EdgesOfTermsTest::fullPad, TOO_MANY, x -> x.put('1'), x -> x.put(Due.packed("12345678")));
        refused(due, EdgesOfTermsTest::faultyPad, BAD_TEXT, StrawDraws::carryOut);
        refused(due, EdgesOfTermsTest::nothing, BAD_TEXT, StrawDraws::carryOut);
    }

    private static void noneIsNoError(Due due) {
        StrawDraws x = Houses.apart(4, 0);
        x.store(5);
        due.is("place(5, 1)", x.place(5, 1), NONE);
        due.is("place(10000, 1)", x.place(10000, 1), BAD_VALUE);
        due.is("place(-1, 1)", x.place(-1, 1), BAD_VALUE);
        due.is("straw(1, 5)", x.straw(1, 5), NONE);
        due.is("straw(1, 10000)", x.straw(1, 10000), BAD_VALUE);
        due.is("straw(1, -1)", x.straw(1, -1), BAD_VALUE);
        due.is("object(0, 1)", x.object(0, 1), NONE);
        due.is("object(1, 1)", x.object(1, 1), NO_SUCH);
        due.is("pin(5, NONE) is no error", x.pin(5, NONE), 0);
        x.down(0, true);
        due.is("move(0, 2)", x.move(0, 2), NONE);
        due.is("move(1, 2)", x.move(1, 2), NO_SUCH);
        due.is("count(7)", x.count(7), NONE);
        due.is("place(5, 0), no server takes part", x.place(5, 0), NONE);
        due.is("place(5, -1), no server takes part", x.place(5, -1), BAD_VALUE);
        Due.putText(x, "+1");
        due.is("fault()", x.fault(), NONE);
    }

    private static void numberedFromNought(Due due) {
        StrawDraws x = new StrawDraws();
        due.is("the first server", x.server(3, 1), 0);
        due.is("the second server", x.server(4, 2), 1);
        x.store(8);
        x.pin(8, 1);
        x.down(1, true);
        due.is("the first thing about the first server, ofServer(0, 0)", x.ofServer(0, 0), 3);
        due.is("the first copy, place(8, 0)", x.place(8, 0), 0);
        due.is("the first move, move(0, 0)", x.move(0, 0), 8);
        due.is("the first object, object(0, 0)", x.object(0, 0), 8);
        due.is("the first number, count(0)", x.count(0), 2);
        due.is("the first slot, save(0)", x.save(0), 1);
        due.is("the first setting, set(0, 1)", x.set(0, 1), 0);
        due.is("the first character, fault()", x.fault(), 0);
        due.is("the first straw, straw(0, 8)", x.straw(0, 8), Drawn.straw(8, 0, 0, 0));
        due.is("move(1, 0)", x.move(1, 0), NO_SUCH);
        due.is("object(1, 0)", x.object(1, 0), NO_SUCH);
        due.is("ofServer(2, 0)", x.ofServer(2, 0), NO_SUCH);
    }

    private static void roundedDown(Due due) {
        StrawDraws x = Houses.apart(4, 5, 2);
        x.store(1);
        // 2 copies: 8000 / 11 is 727.27, 10000 / 11 is 909.09, 4000 / 11 is 363.64.
        due.is("ofServer(0, 4)", x.ofServer(0, 4), 727);
        due.is("ofServer(1, 4)", x.ofServer(1, 4), 909);
        due.is("ofServer(2, 4)", x.ofServer(2, 4), 363);
        StrawDraws y = Houses.apart(3, 4, 9);
        y.set(COPIES, 3);
        y.store(1);
        // With the weight 4 the shares are 818.18, 1090.91 and 1090.91, so the sum is 182 + 90 + 90.
        due.is("bestWeight(2, 0)", y.bestWeight(2, 0), 4);
        due.is("bestWeight(2, 1)", y.bestWeight(2, 1), 362);
        StrawDraws z = new StrawDraws();
        z.server(0, 1);
        for (int server = 1; server < 12; server++) {
            z.server(server % 6, 16);
        }
        z.set(COPIES, 1);
        z.store(1);
        // 1000 / 177 is 5.65, 16000 / 177 is 90.4.
        due.is("the smallest share that is not 0", z.ofServer(0, 4), 5);
        due.is("ofServer(11, 4)", z.ofServer(11, 4), 90);
    }

    private static void copies(Due due) {
        StrawDraws x = Houses.apart(1, 1, 1, 1);
        due.is("count(8), at first", x.count(8), 2);
        due.are("set(COPIES, ..)", value -> x.set(COPIES, value), BAD_VALUE, MIN, -1, 0, 4, 5, MAX);
        due.is("count(8), still", x.count(8), 2);
        due.is("set(COPIES, 1)", x.set(COPIES, 1), 0);
        due.is("count(8), least", x.count(8), 1);
        due.is("set(COPIES, 3)", x.set(COPIES, 3), 0);
        due.is("count(8), most", x.count(8), 3);
    }

    private static void salt(Due due) {
        StrawDraws x = Houses.apart(1);
        due.is("count(9), at first", x.count(9), 0);
        due.are("set(SALT, ..)", value -> x.set(SALT, value), BAD_VALUE, MIN, -1, 1000, 1001, MAX);
        due.is("count(9), still", x.count(9), 0);
        due.is("set(SALT, 999)", x.set(SALT, 999), 0);
        due.is("count(9), most", x.count(9), 999);
        due.is("straw(0, 3), most", x.straw(0, 3), Drawn.straw(3, 999, 0, 0));
        due.is("set(SALT, 0)", x.set(SALT, 0), 0);
        due.is("count(9), least", x.count(9), 0);
    }

    private static void twelveServers(Due due) {
        StrawDraws x = new StrawDraws();
        for (int server = 0; server < 12; server++) {
            due.is("ofServer(" + server + ", 0), before", x.ofServer(server, 0), NO_SUCH);
            due.is("the server " + server, x.server(server % 6, 16 - server), server);
        }
        due.is("a 13th one", x.server(0, 1), TOO_MANY);
        x.down(3, true);
        x.weigh(7, 0);
        x.toRack(11, 0);
        due.is("a 13th one, some take no part", x.server(0, 1), TOO_MANY);
        due.is("count(0), they stay", x.count(0), 12);
        for (int server = 0; server < 12; server++) {
            due.is("ofServer(" + server + ", 1)", x.ofServer(server, 1), server == 7 ? 0 : 16 - server);
        }
        due.is("ofServer(12, 1)", x.ofServer(12, 1), NO_SUCH);
        due.is("ofServer(-1, 1)", x.ofServer(-1, 1), NO_SUCH);
    }

    private static void racksAndWeights(Due due) {
        StrawDraws x = new StrawDraws();
        due.is("least, server(0, 0)", x.server(0, 0), 0);
        due.is("most, server(5, 16)", x.server(5, 16), 1);
        int[][] rows = {{0, 0, 0}, {5, 16, 0}};
        for (int server = 0; server < 2; server++) {
            for (int what = 0; what < 3; what++) {
                due.is("ofServer(" + server + ", " + what + ")", x.ofServer(server, what), rows[server][what]);
            }
        }
        due.are("server(.., 1)", rack -> x.server(rack, 1), BAD_VALUE, MIN, -1, 6, MAX);
        due.are("server(1, ..)", weight -> x.server(1, weight), BAD_VALUE, MIN, -1, 17, MAX);
        due.are("toRack(0, ..)", rack -> x.toRack(0, rack), BAD_VALUE, MIN, -1, 6, MAX);
        due.are("weigh(0, ..)", weight -> x.weigh(0, weight), BAD_VALUE, MIN, -1, 17, MAX);
        due.is("down(1, true)", x.down(1, true), 0);
        due.is("ofServer(1, 2), down", x.ofServer(1, 2), 1);
        due.is("down(1, false)", x.down(1, false), 0);
        due.is("ofServer(1, 2), up again", x.ofServer(1, 2), 0);
        // A number that was gone, with a server that was down, is built anew.
        StrawDraws y = new StrawDraws();
        y.save(0);
        y.server(0, 4);
        y.down(0, true);
        y.restore(0);
        due.is("server(1, 1)", y.server(1, 1), 0);
        due.is("ofServer(0, 2), up at first", y.ofServer(0, 2), 0);
        due.is("count(5), it takes part", y.count(5), 1);
    }

    private static void strawsOfAWeight(Due due) {
        for (int weight = 1; weight <= 16; weight++) {
            StrawDraws x = Houses.together(weight);
            int last = objectWhoseLongestIs(weight - 1, weight);
            due.is("the last straw, weight " + weight, x.straw(0, last), Drawn.straw(last, 0, 0, weight - 1));
            int first = objectWhoseLongestIs(0, weight);
            due.is("the first straw, weight " + weight, x.straw(0, first), Drawn.straw(first, 0, 0, 0));
            int further = objectWhoseLongestIs(weight, weight + 1);
            due.is("no straw more, weight " + weight, x.straw(0, further), Drawn.longest(further, 0, 0, weight));
        }
        StrawDraws y = Houses.together(16);
        due.is("straw(0, 0)", y.straw(0, 0), Drawn.longest(0, 0, 0, 16));
        due.is("straw(0, 9999)", y.straw(0, 9999), Drawn.longest(9999, 0, 0, 16));
        due.are("straw(0, ..)", object -> y.straw(0, object), BAD_VALUE, MIN, -1, 10000, MAX);
    }

    private static int objectWhoseLongestIs(int straw, int weight) {
        for (int object = 0; object <= 9999; object++) {
            if (Drawn.straw(object, 0, 0, straw) == Drawn.longest(object, 0, 0, weight)) {
                return object;
            }
        }
        return NONE;
    }

    private static void seeds(Due due) {
        int[] objects = {0, 1, 9998, 9999};
        int[] salts = {0, 1, 998, 999};
        for (int salt : salts) {
            StrawDraws x = Houses.together(1);
            x.set(SALT, salt);
            for (int object : objects) {
                due.is("straw(0, " + object + "), salt " + salt, x.straw(0, object), Drawn.straw(object, salt, 0, 0));
            }
        }
    }

    private static void wrapsAround(Due due) {
        StrawDraws x = new StrawDraws();
        for (int server = 0; server < 12; server++) {
            x.server(0, 1);
        }
        for (int object = 0; object <= 9999; object += 303) {
            for (int server = 0; server < 12; server++) {
                int got = x.straw(server, object);
                due.is("straw(" + server + ", " + object + ")", got, Drawn.straw(object, 0, server, 0));
            }
        }
    }

    private static void standsAbove(Due due) {
        // By their straws 3, 2, 1, 0 for the object 1, and 2, 1, 0, 3 for the object 3.
        StrawDraws x = Houses.small();
        for (int server = 0; server < 3; server++) {
            due.is("a higher one is longer", x.straw(server, 1) < x.straw(server + 1, 1) ? 1 : 0, 1);
        }
        due.places(x, 1, 3, 2);
        x.down(3, true);
        due.places(x, 1, 2, 1);
        x.down(3, false);
        due.is("a lower one is longer", x.straw(0, 3) > x.straw(3, 3) ? 1 : 0, 1);
        due.places(x, 3, 2, 1);
        x.down(2, true);
        due.places(x, 3, 1, 3);
    }

    private static void takesNoPart(Due due) {
        StrawDraws x = Houses.apart(0, 1, 16, 0);
        x.down(2, true);
        x.down(3, true);
        x.store(6);
        due.places(x, 6, 1);
        due.is("count(5)", x.count(5), 1);
        due.is("count(6)", x.count(6), 1);
        int[] straws = {NONE, (int) Drawn.straw(6, 0, 1, 0), NONE, NONE};
        for (int server = 0; server < 4; server++) {
            due.is("straw(" + server + ", 6)", x.straw(server, 6), straws[server]);
        }
        x.weigh(0, 1);
        due.is("straw(0, 6), the weight 1", x.straw(0, 6), Drawn.straw(6, 0, 0, 0));
        due.is("object(0, 2), the weight 1", x.object(0, 2), 2);
        x.down(2, false);
        due.is("straw(2, 6), up", x.straw(2, 6), Drawn.longest(6, 0, 2, 16));
        due.is("count(5), up", x.count(5), 3);
        x.down(3, false);
        due.is("straw(3, 6), up with the weight 0", x.straw(3, 6), NONE);
        due.is("count(5), up with the weight 0", x.count(5), 3);
        due.is("count(6), up with the weight 0", x.count(6), 18);
    }

    private static void fortyObjects(Due due) {
        StrawDraws x = new StrawDraws();
        for (int i = 0; i < 40; i++) {
            // From the highest to the lowest and the ones between: each one finds its place.
            due.is("one of 40", x.store(i % 2 == 0 ? 9999 - i : i - 1), 0);
            due.is("count(1)", x.count(1), i + 1);
        }
        due.is("the 41st", x.store(5000), TOO_MANY);
        for (int place = 0; place < 40; place++) {
            int object = place < 20 ? 2 * place : 9999 - 2 * (39 - place);
            due.is("object(" + place + ", 0)", x.object(place, 0), object);
        }
        due.is("object(40, 0)", x.object(40, 0), NO_SUCH);
        x.drop(9999);
        due.is("the 40th again", x.store(5000), 0);
        due.is("object(20, 0)", x.object(20, 0), 5000);
        due.is("the 41st again", x.store(9999), TOO_MANY);
    }

    private static void upToCopies(Due due) {
        for (int servers = 0; servers <= 4; servers++) {
            for (int copies = 1; copies <= 3; copies++) {
                StrawDraws x = new StrawDraws();
                x.set(COPIES, copies);
                for (int server = 0; server < servers; server++) {
                    x.server(server, 5);
                }
                String which = ", " + servers + " servers, COPIES " + copies;
                due.is("store(1)" + which, x.store(1), Math.min(servers, copies));
                for (int copy = 0; copy <= 3; copy++) {
                    boolean isThere = copy < Math.min(servers, copies);
                    due.is("place(1, " + copy + ") is there" + which, x.place(1, copy) == NONE ? 0 : 1,
                            isThere ? 1 : 0);
                }
            }
        }
    }

    private static void pinned(Due due) {
        // By their straws 3, 2, 1, 0 for the object 1.
        StrawDraws x = Houses.small();
        x.pin(1, 0);
        due.places(x, 1, 0, 3);
        x.down(0, true);
        due.places(x, 1, 3, 2);
        x.down(0, false);
        due.places(x, 1, 0, 3);
        x.weigh(0, 0);
        due.places(x, 1, 3, 2);
        x.weigh(0, 1);
        due.places(x, 1, 0, 3);
        x.set(COPIES, 1);
        due.places(x, 1, 0);
        x.pin(1, NONE);
        due.places(x, 1, 3);
    }

    private static void goneThrough(Due due) {
        StrawDraws x = Houses.small();
        x.set(COPIES, 3);
        due.places(x, 1, 3, 2, 1);
        x.toRack(2, 2);
        due.places(x, 1, 3, 1);
        x.toRack(1, 2);
        due.places(x, 1, 3, 0);
        x.toRack(0, 2);
        due.places(x, 1, 3);
        // The rack of the pinned server is taken, and the pinned server itself is no place again.
        x.pin(1, 1);
        due.places(x, 1, 1);
        x.toRack(3, 5);
        due.places(x, 1, 1, 3);
        x.pin(1, 3);
        due.places(x, 1, 3, 2);
    }

    private static void unlikeRacks(Due due) {
        StrawDraws x = new StrawDraws();
        x.set(COPIES, 3);
        for (int server = 0; server < 12; server++) {
            x.server(5, 9);
        }
        due.is("store(1), all in one rack", x.store(1), 1);
        x.toRack(11, 4);
        due.is("object(0, 2), two racks", x.object(0, 2), 2);
        x.toRack(0, 0);
        due.is("object(0, 2), three racks", x.object(0, 2), 3);
        StrawDraws full = Houses.full();
        for (int object = 0; object < 40; object++) {
            int first = full.place(object, 0) % 6;
            int second = full.place(object, 1) % 6;
            int third = full.place(object, 2) % 6;
            due.is("unlike racks of " + object, first != second && second != third && first != third ? 1 : 0, 1);
        }
    }

    private static void whatMatters(Due due) {
        StrawDraws x = Houses.apart(4);
        x.store(3);
        x.store(8);
        x.server(1, 4);
        due.moves(x, Due.row(3, NONE, 1), Due.row(8, NONE, 1));
        x.store(5);
        due.moves(x, Due.row(3, NONE, 1), Due.row(8, NONE, 1));
        x.drop(3);
        due.moves(x, Due.row(3, NONE, 1), Due.row(8, NONE, 1));
        x.drop(5);
        x.drop(8);
        due.moves(x, Due.row(3, NONE, 1), Due.row(8, NONE, 1));
        x.store(8);
        x.down(0, true);
        due.moves(x, Due.row(8, 0, NONE));
        x.weigh(1, 0);
        due.moves(x, Due.row(8, 1, NONE));
        x.down(0, false);
        due.moves(x, Due.row(8, NONE, 0));
        x.weigh(1, 4);
        due.moves(x, Due.row(8, NONE, 1));
        x.toRack(1, 0);
        int gone = x.place(8, 0) == 0 ? 1 : 0;
        due.moves(x, Due.row(8, gone, NONE));
        x.pin(8, gone);
        due.moves(x, Due.row(8, 1 - gone, gone));
        x.toRack(1, 1);
        x.set(COPIES, 1);
        due.moves(x, Due.row(8, 1 - gone, NONE));
    }

    private static void movesInOrder(Due due) {
        StrawDraws x = Houses.apart(1, 1, 1, 1, 1, 1);
        x.set(COPIES, 3);
        x.store(1);
        due.places(x, 1, 5, 3, 1);
        due.is("set(SALT, 79)", x.set(SALT, 79), 3);
        due.places(x, 1, 4, 2, 0);
        due.moves(x, Due.row(1, 1, 0), Due.row(1, 3, 2), Due.row(1, 5, 4));
        due.is("set(SALT, 0)", x.set(SALT, 0), 3);
        due.moves(x, Due.row(1, 0, 1), Due.row(1, 2, 3), Due.row(1, 4, 5));
        // The objects are in ascending order, not in the order in which they were stored.
        StrawDraws y = Houses.small();
        y.set(SALT, 999);
        due.moves(y, Due.row(1, 2, 0), Due.row(2, 3, 1), Due.row(9999, 1, 3));
        StrawDraws z = Houses.full();
        due.is("set(COPIES, 1), 40 objects", z.set(COPIES, 1), 80);
        due.is("move(0, 0)", z.move(0, 0), 0);
        due.is("move(1, 0)", z.move(1, 0), 0);
        due.is("two servers of one object", z.move(0, 1) < z.move(1, 1) ? 1 : 0, 1);
        due.is("move(79, 0)", z.move(79, 0), 39);
        due.is("move(80, 0)", z.move(80, 0), NO_SUCH);
    }

    private static void oneRowIsLonger(Due due) {
        // By their straws 3, 2, 1, 0 for the object 1.
        StrawDraws x = Houses.small();
        for (int object : new int[] {2, 3, 400, 9999}) {
            x.drop(object);
        }
        x.set(COPIES, 3);
        due.moves(x, Due.row(1, NONE, 1));
        x.set(COPIES, 1);
        due.moves(x, Due.row(1, 1, NONE), Due.row(1, 2, NONE));
        x.set(COPIES, 3);
        due.moves(x, Due.row(1, NONE, 1), Due.row(1, NONE, 2));
        StrawDraws y = Houses.apart(1);
        y.store(0);
        y.down(0, true);
        due.moves(y, Due.row(0, 0, NONE));
        y.down(0, false);
        due.moves(y, Due.row(0, NONE, 0));
    }

    private static void movesAreKept(Due due) {
        StrawDraws x = Houses.small();
        x.set(COPIES, 1);
        due.is("count(4)", x.count(4), 5);
        x.set(COPIES, 1);
        due.moves(x);
        x.set(COPIES, 2);
        due.is("count(4)", x.count(4), 5);
        // Server 2 becomes the first copy of the object 1, which it has already.
        due.is("pin(1, 2)", x.pin(1, 2), 0);
        due.places(x, 1, 2, 3);
        due.moves(x);
        x.set(COPIES, 1);
        x.server(5, 0);
        due.moves(x);
        x.set(COPIES, 2);
        due.is("set(COPIES, 4)", x.set(COPIES, 4), BAD_VALUE);
        due.is("down(0, false)", x.down(0, false), NOT_POSSIBLE);
        due.is("movesIf(0, 0)", x.movesIf(0, 0), 0);
        x.bestWeight(2, 0);
        x.place(7777, 0);
        x.save(0);
        due.is("count(4), after what is no change", x.count(4), 5);
        due.is("move(4, 0)", x.move(4, 0), 9999);
    }

    private static void loads(Due due) {
        StrawDraws x = Houses.apart(2, 5, 16);
        x.set(COPIES, 3);
        due.is("ofServer(0, 3), no objects", x.ofServer(0, 3), 0);
        Houses.storeSome(x, 40);
        for (int server = 0; server < 3; server++) {
            due.is("ofServer(" + server + ", 3), 40 objects", x.ofServer(server, 3), 40);
        }
        x.drop(0);
        x.place(0, 0);
        due.is("ofServer(0, 3), one is not kept any more", x.ofServer(0, 3), 39);
        x.down(0, true);
        due.is("ofServer(0, 3), down", x.ofServer(0, 3), 0);
        due.is("ofServer(1, 3), beside it", x.ofServer(1, 3), 39);
        x.weigh(1, 0);
        due.is("ofServer(1, 3), weight 0", x.ofServer(1, 3), 0);
    }

    private static void shares(Due due) {
        StrawDraws x = Houses.apart(16, 1, 1);
        x.set(COPIES, 3);
        due.is("ofServer(0, 4), no objects", x.ofServer(0, 4), 0);
        Houses.storeSome(x, 40);
        due.is("ofServer(0, 4), 120 copies", x.ofServer(0, 4), 106666);
        due.is("ofServer(1, 4), 120 copies", x.ofServer(1, 4), 6666);
        x.down(2, true);
        due.is("ofServer(0, 4), 80 copies", x.ofServer(0, 4), 75294);
        due.is("ofServer(2, 4), down", x.ofServer(2, 4), 0);
        x.weigh(0, 0);
        due.is("ofServer(0, 4), weight 0", x.ofServer(0, 4), 0);
        due.is("ofServer(1, 4), alone", x.ofServer(1, 4), 40000);
        x.down(1, true);
        due.is("ofServer(1, 4), none takes part", x.ofServer(1, 4), 0);
    }

    private static void sixtyCharacters(Due due) {
        StrawDraws x = new StrawDraws();
        String sixty = "+1;-1;".repeat(9) + "+9999;";
        due.is("60 characters", Due.putText(x, sixty), 60);
        due.is("a 61st one", x.put('+'), TOO_MANY);
        due.is("count(10)", x.count(10), 60);
        x.wipe();
        due.is("59 characters", Due.putText(x, sixty.substring(0, 59)), 59);
        due.is("two more", x.put(Due.packed(";+")), TOO_MANY);
        due.is("one more", x.put(';'), 60);
        x.wipe();
        Due.putText(x, sixty.substring(0, 54) + "p9999@");
        due.is("the fault of 60 characters", x.fault(), 60);
        x.wipe();
        Due.putText(x, sixty.substring(0, 54) + "d0;+19");
        due.is("no fault of 60 characters", x.fault(), NONE);
    }

    private static void faults(Due due, Object... textsAndFaults) {
        for (int i = 0; i < textsAndFaults.length; i += 2) {
            StrawDraws x = new StrawDraws();
            String text = (String) textsAndFaults[i];
            Due.putText(x, text);
            due.is("fault() of " + text, x.fault(), (Integer) textsAndFaults[i + 1]);
        }
    }

    private static void rowsOfOrders(Due due) {
        faults(due, "d1", NONE, "d1;d2", NONE, "d1;d2;d3", NONE, ";", 0, ";d1", 0, "d1;", 3, "d1;;d2", 3, "d1d2", 2,
                "d1,d2", 2, "d1;d2;", 6, "d1;d2,", 5);
        faults(due, "+0;+1;+2;+3;+4;+5;+6;+7;+8;+9;+0;+1;+2;+3;+4;+5;+6;+7;+8;+9", NONE);
        faults(due, "+0;+1;+2;+3;+4;+5;+6;+7;+8;+9;+0;+1;+2;+3;+4;+5;+6;+7;+8;+9;", 60);
        faults(due, "+0;+1;+2;+3;+4;+5;+6;+7;+8;+9;+0;+1;+2;+3;+4;+5;+6;+7;+8;+9x", 59);
    }

    private static void orders(Due due) {
        faults(due, "+1", NONE, "-1", NONE, "w1=2", NONE, "d1", NONE, "u1", NONE, "p1@2", NONE, "p1@-", NONE);
        faults(due, "x1", 0, "1", 0, "W1=2", 0, "=", 0, "@", 0, "++", 1, "--", 1, "+-1", 1, "d-", 1, "u+", 1, "w=", 1,
                "p@", 1, "p-", 1, "w1@2", 2, "w1;", 2, "w1-", 2, "p1=2", 2, "p1;", 2, "p1-", 2, "w1=-", 3, "w1==", 3,
                "w1=;", 3, "p1@@", 3, "p1@;", 3, "p1@+", 3, "p1@--", 4, "p1@-1", 4, "p1@1-", 4, "w1=1=", 4, "d1=1", 2,
                "u1@1", 2, "+1=1", 2, "-1@-", 2);
    }

    private static void pinToNone(Due due) {
        StrawDraws x = Houses.apart(1, 1);
        x.store(4);
        Due.putText(x, "p4@1");
        due.is("carryOut(), to a server", x.carryOut(), 1);
        due.is("object(0, 1)", x.object(0, 1), 1);
        Due.putText(x, "p4@-");
        due.is("carryOut(), to none", x.carryOut(), 1);
        due.is("object(0, 1), none", x.object(0, 1), NONE);
        Due.putText(x, "p4@0;p4@2");
        due.is("carryOut(), to no such server", x.carryOut(), 1);
        due.is("object(0, 1), the first one", x.object(0, 1), 0);
    }

    private static void numbers(Due due) {
        faults(due, "+0", NONE, "+9", NONE, "+10", NONE, "+999", NONE, "+1000", NONE, "+9999", NONE, "+00", 2, "+01", 2,
                "+0009", 2, "w0=0", NONE, "w00=0", 2, "w0=00", 4, "w0=01", 4, "w9999=9999", NONE, "p0@0", NONE,
                "p0@01", 4, "p9999@9999", NONE, "d00", 2, "u00", 2, "-00", 2, "+1/", 2, "+1:", 2, "+/", 1, "+:", 1);
        StrawDraws x = new StrawDraws();
        Due.putText(x, "+0;+9999");
        due.is("carryOut()", x.carryOut(), 2);
        due.is("object(0, 0)", x.object(0, 0), 0);
        due.is("object(1, 0)", x.object(1, 0), 9999);
    }

    private static void digitTooMany(Due due) {
        faults(due, "+10000", 5, "+99990", 5, "+12345", 5, "-10000", 5, "w10000=1", 5, "w1=10000", 7, "d10000", 5,
                "u10000", 5, "p10000@1", 5, "p1@10000", 7, "+9999;+10000", 11, "+99999999", 5);
    }

    private static void endsTooEarly(Due due) {
        faults(due, "", 0, "+", 1, "-", 1, "w", 1, "d", 1, "u", 1, "p", 1, "w1", 2, "w9999", 5, "w1=", 3, "p1", 2,
                "p9999", 5, "p1@", 3, "d1;", 3, "d1;w1=", 6);
        // What is left of a longer text that was wiped does not count.
        StrawDraws x = new StrawDraws();
        Due.putText(x, "w1=5;d1");
        x.wipe();
        due.is("fault(), wiped", x.fault(), 0);
        Due.putText(x, "w1");
        due.is("fault() of w1, wiped before", x.fault(), 2);
        x.put('=');
        due.is("fault() of w1=, wiped before", x.fault(), 3);
        x.put('5');
        due.is("fault() of w1=5", x.fault(), NONE);
    }
}
