import java.io.IOException;

/** The sentences of the promises 23 to 25 that name a boundary, each with a test of its own. */
public final class EdgesOfHistoryTest {
    private static final int BAD_VALUE = StrawDraws.BAD_VALUE;
    private static final int NOT_POSSIBLE = StrawDraws.NOT_POSSIBLE;
    private static final int NONE = StrawDraws.NONE;
    private static final int COPIES = StrawDraws.COPIES;
    private static final int SALT = StrawDraws.SALT;
    private static final int MIN = Edges.MIN;
    private static final int MAX = Edges.MAX;

    private EdgesOfHistoryTest() {
    }

    public static void main(String[] args) throws IOException {
        Edges edges = new Edges();
        undoEverything(edges.of("Promise 23", "Undoes the latest change: everything except the pad, the slots and the "
                + "history is as it was before it."));
        undoNotThePad(edges.of("Promise 23", "everything except the pad, the slots and the history"));
        sixStates(edges.of("Promise 23", "A history of at most 6 states is kept"));
        eachChangeRecords(edges.of("Promise 23", "each method that is a change, and returns no error, records the state "
                + "before it"));
        errorsRecordNothing(edges.of("Promise 23", "and returns no error"));
        nothingDifferent(edges.of("Promise 23", "(also if nothing is different then)"));
        oldestIsDropped(edges.of("Promise 23", "when one more is recorded, the oldest one is dropped."));
        ordersRecordNothing(edges.of("Promise 23", "An order of a text records nothing by itself."));
        undoLeft(edges.of("Promise 23", "Returns how many changes can be undone then"));
        undoNone(edges.of("Promise 23", "NOT_POSSIBLE if there is none."));

        saveEverything(edges.of("Promise 24", "Saves everything except the pad, the history and the slots in a slot"));
        saveOverwrites(edges.of("Promise 24", "and overwrites what was saved there."));
        saveSlots(edges.of("Promise 24", "- `slot`: 0 or 1"));
        saveKept(edges.of("Promise 24", "Returns how many objects are kept"));
        saveBadValue(edges.of("Promise 24", "BAD_VALUE if there is no such slot."));
        saveIsNoChange(edges.of("Promise 23", "each method that is a change"));

        restoreKeeps(edges.of("Promise 25", "Restores what was saved last in a slot, which keeps it"));
        restoreMoves(edges.of("Promise 25", "(the moves, too)"));
        restoreIsAChange(edges.of("Promise 25", "This is a change."));
        restoreSlots(edges.of("Promise 25", "- `slot`: 0 or 1"));
        restoreKept(edges.of("Promise 25", "Returns how many objects are kept then"));
        restoreBadValue(edges.of("Promise 25", "BAD_VALUE if there is no such slot"));
        restoreNothing(edges.of("Promise 25", "NOT_POSSIBLE if nothing was saved in it."));
        edges.end();
    }

    private interface Change {
        int of(StrawDraws x);
    }

    /** One of each kind of change, all of them possible after busy(). */
    private static final Change[] CHANGES = {x -> x.set(COPIES, 3), x -> x.set(SALT, 1), x -> x.server(5, 16),
        x -> x.weigh(1, 0), x -> x.toRack(2, 0), x -> x.down(2, false), x -> x.down(0, true), x -> x.store(8),
        x -> x.drop(7), x -> x.pin(5, 2), x -> x.pin(7, NONE), StrawDraws::carryOut, x -> x.restore(0)};

    /** The same kinds, but nothing is different after them. */
    private static final Change[] IDLE = {x -> x.set(COPIES, 2), x -> x.set(SALT, 999), x -> x.weigh(1, 3),
        x -> x.toRack(2, 2), x -> x.pin(7, 1), x -> x.pin(5, NONE), x -> x.restore(1)};

    /** Three servers, of which one is down, three objects, a pin, moves, a pad and two slots. */
    private static void busy(StrawDraws x) {
        x.server(0, 4);
        x.server(1, 3);
        x.server(2, 2);
        x.store(5);
        x.store(9);
        x.store(7);
        x.pin(7, 1);
        x.save(0);
        x.down(2, true);
        x.set(SALT, 999);
        x.save(1);
        Due.putText(x, "+1;d0;-9");
    }

    private static void same(Due due, String what, String got, String want) {
        due.is(what, got.equals(want) ? 1 : 0, 1);
    }

    private static void undoEverything(Due due) {
        for (int i = 0; i < CHANGES.length; i++) {
            StrawDraws x = new StrawDraws();
            busy(x);
            String before = Looks.state(x);
            due.is("change " + i, Math.min(CHANGES[i].of(x), 0), 0);
            same(due, "change " + i + " changes something", Looks.state(x).equals(before) ? "same" : "other", "other");
            due.is("undo() of change " + i, x.undo(), 5);
            same(due, "all is as before change " + i, Looks.state(x), before);
        }
        StrawDraws y = Houses.small();
        y.set(SALT, 999);
        due.is("set(COPIES, 1)", y.set(COPIES, 1), 5);
        due.is("move(2, 0)", y.move(2, 0), 3);
        due.is("undo(), five other moves", y.undo(), 5);
        due.moves(y, Due.row(1, 2, 0), Due.row(2, 3, 1), Due.row(9999, 1, 3));
    }

    private static void undoNotThePad(Due due) {
        StrawDraws x = Houses.apart(1, 1);
        x.store(5);
        Due.putText(x, "+1");
        x.store(6);
        Due.putText(x, ";+2");
        x.save(0);
        due.is("undo()", x.undo(), 3);
        due.is("count(10), the pad stays", x.count(10), 5);
        due.is("count(1)", x.count(1), 1);
        due.is("restore(0), the slot stays", x.restore(0), 2);
        due.is("undo()", x.undo(), 3);
        x.save(1);
        due.is("carryOut()", x.carryOut(), 2);
        due.is("undo(), carryOut()", x.undo(), 3);
        due.is("count(10), the pad stays empty", x.count(10), 0);
        due.is("undo(), store(5)", x.undo(), 2);
        due.is("restore(1), the other slot stays", x.restore(1), 1);
        due.is("count(11), the history is not gone back to", x.count(11), 3);
    }

    private static void sixStates(Due due) {
        StrawDraws x = new StrawDraws();
        for (int object = 1; object <= 6; object++) {
            x.store(object);
            due.is("count(11)", x.count(11), object);
        }
        x.store(7);
        due.is("count(11), a seventh", x.count(11), 6);
        for (int left = 5; left >= 0; left--) {
            due.is("undo()", x.undo(), left);
            due.is("count(1)", x.count(1), left + 1);
        }
        due.is("undo(), a seventh", x.undo(), NOT_POSSIBLE);
        due.is("count(1), the first one is kept", x.count(1), 1);
    }

    private static void eachChangeRecords(Due due) {
        for (int i = 0; i < CHANGES.length; i++) {
            StrawDraws x = new StrawDraws();
            busy(x);
            while (x.count(11) > 1) {
                x.undo();
            }
            x.restore(1);
            due.is("count(11), before change " + i, x.count(11), 2);
            due.is("change " + i, Math.min(CHANGES[i].of(x), 0), 0);
            due.is("count(11), after change " + i, x.count(11), 3);
        }
    }

    private static void errorsRecordNothing(Due due) {
        StrawDraws x = Houses.apart(4);
        x.store(5);
        Change[] refused = {y -> y.set(COPIES, 4), y -> y.set(9, 1), y -> y.server(6, 1), y -> y.weigh(1, 1),
            y -> y.weigh(0, 17), y -> y.toRack(1, 1), y -> y.toRack(0, 6), y -> y.down(1, true), y -> y.down(0, false),
            y -> y.store(5), y -> y.store(-1), y -> y.drop(6), y -> y.pin(6, 0), y -> y.pin(5, 1),
            StrawDraws::carryOut, y -> y.restore(0), y -> y.restore(2)};
        for (int i = 0; i < refused.length; i++) {
            due.is("call " + i + " is refused", Math.max(refused[i].of(x), 0), 0);
            due.is("count(11), after call " + i, x.count(11), 2);
        }
        due.is("undo()", x.undo(), 1);
        due.is("count(1), what was before store(5)", x.count(1), 0);
        // Nor does an error take the oldest state from a full history.
        StrawDraws full = new StrawDraws();
        Houses.storeSome(full, 7);
        full.store(3);
        full.weigh(0, 1);
        for (int undo = 0; undo < 6; undo++) {
            full.undo();
        }
        due.is("count(1), six undone of seven", full.count(1), 1);
    }

    private static void nothingDifferent(Due due) {
        for (int i = 0; i < IDLE.length; i++) {
            StrawDraws x = new StrawDraws();
            busy(x);
            while (x.count(11) > 1) {
                x.undo();
            }
            x.restore(1);
            due.is("idle change " + i, Math.min(IDLE[i].of(x), 0), 0);
            due.is("count(11), after idle change " + i, x.count(11), 3);
            due.is("undo() of idle change " + i, x.undo(), 2);
        }
        StrawDraws y = new StrawDraws();
        Due.putText(y, "d0");
        due.is("carryOut(), none", y.carryOut(), 0);
        due.is("count(11)", y.count(11), 1);
    }

    private static void oldestIsDropped(Due due) {
        // The history goes round many times, and back now and then.
        StrawDraws x = new StrawDraws();
        int salt = 0;
        for (int round = 0; round < 20; round++) {
            for (int change = 0; change < 7 + round % 4; change++) {
                salt++;
                x.set(SALT, salt);
            }
            due.is("count(11), round " + round, x.count(11), 6);
            int back = 1 + round % 6;
            for (int undo = 1; undo <= back; undo++) {
                salt--;
                due.is("undo(), round " + round, x.undo(), 6 - undo);
                due.is("count(9), round " + round, x.count(9), salt);
            }
        }
        x.set(SALT, 500);
        x.set(SALT, 501);
        x.undo();
        due.is("count(9), the newest one is gone back to", x.count(9), 500);
    }

    private static void ordersRecordNothing(Due due) {
        StrawDraws x = Houses.apart(1, 1);
        Due.putText(x, "+1;+2;+3;+4;+5;+6;+7;+8;d0;u0;w0=2");
        due.is("carryOut()", x.carryOut(), 11);
        due.is("count(11)", x.count(11), 3);
        due.is("undo()", x.undo(), 2);
        due.is("count(1)", x.count(1), 0);
        Due.putText(x, "+1;+2;d0;d0");
        due.is("carryOut(), up to an error", x.carryOut(), 3);
        due.is("count(11)", x.count(11), 3);
        x.undo();
        due.is("count(1)", x.count(1), 0);
        due.is("ofServer(0, 2)", x.ofServer(0, 2), 0);
        due.is("undo(), the second server", x.undo(), 1);
        due.is("count(0)", x.count(0), 1);
    }

    private static void undoLeft(Due due) {
        StrawDraws x = new StrawDraws();
        x.store(1);
        due.is("undo(), the only one", x.undo(), 0);
        x.store(1);
        x.store(2);
        due.is("undo(), two", x.undo(), 1);
        x.store(3);
        x.store(4);
        due.is("undo(), three", x.undo(), 2);
        due.is("count(11)", x.count(11), 2);
        Houses.storeSome(x, 20);
        due.is("undo(), many", x.undo(), 5);
    }

    private static void undoNone(Due due) {
        StrawDraws x = new StrawDraws();
        due.is("undo(), a new object", x.undo(), NOT_POSSIBLE);
        x.put('+');
        x.save(0);
        due.is("undo(), no change so far", x.undo(), NOT_POSSIBLE);
        due.is("count(10)", x.count(10), 1);
        x.store(1);
        x.undo();
        due.is("undo(), all undone", x.undo(), NOT_POSSIBLE);
        due.is("undo(), all undone, again", x.undo(), NOT_POSSIBLE);
        due.is("count(11)", x.count(11), 0);
        x.store(2);
        due.is("undo(), one more", x.undo(), 0);
    }

    private static void saveEverything(Due due) {
        StrawDraws x = new StrawDraws();
        busy(x);
        String before = Looks.now(x);
        String state = Looks.state(x);
        due.is("save(0)", x.save(0), 3);
        same(due, "all is as before save(0)", Looks.now(x), before);
        for (int i = 0; i < 5; i++) {
            due.is("change " + i, Math.min(CHANGES[i].of(x), 0), 0);
        }
        x.down(2, false);
        x.store(8);
        x.drop(7);
        x.pin(5, 2);
        x.put(';');
        due.is("restore(0)", x.restore(0), 3);
        same(due, "all is as when it was saved", Looks.state(x), state);
        due.is("count(10), not the pad", x.count(10), 9);
        due.is("count(11), not the history", x.count(11), 6);
        due.is("undo(), not the history", x.undo(), 5);
        due.is("object(0, 1), not the history", x.object(0, 1), 2);
        StrawDraws y = new StrawDraws();
        y.store(1);
        y.save(1);
        y.save(0);
        y.drop(1);
        y.save(1);
        y.restore(0);
        due.is("restore(1), not the slots", y.restore(1), 0);
    }

    private static void saveOverwrites(Due due) {
        StrawDraws x = Houses.full();
        x.save(0);
        x.save(1);
        for (int object = 0; object < 38; object++) {
            x.drop(object);
        }
        due.is("save(0), less than before", x.save(0), 2);
        x.store(7);
        due.is("restore(0)", x.restore(0), 2);
        due.is("object(0, 0)", x.object(0, 0), 38);
        due.is("object(2, 0)", x.object(2, 0), StrawDraws.NO_SUCH);
        due.is("restore(1), the other one is not overwritten", x.restore(1), 40);
        due.is("object(0, 0)", x.object(0, 0), 0);
        due.is("save(0), more than before", x.save(0), 40);
        x.drop(0);
        due.is("restore(0)", x.restore(0), 40);
    }

    private static void saveSlots(Due due) {
        StrawDraws x = new StrawDraws();
        x.store(1);
        due.is("save(0)", x.save(0), 1);
        x.store(2);
        due.is("save(1)", x.save(1), 2);
        x.store(3);
        due.is("restore(0)", x.restore(0), 1);
        due.is("restore(1)", x.restore(1), 2);
    }

    private static void saveKept(Due due) {
        StrawDraws x = new StrawDraws();
        due.is("save(0), none", x.save(0), 0);
        x.store(5);
        due.is("save(0), one", x.save(0), 1);
        due.is("save(1), 40", Houses.full().save(1), 40);
    }

    private static void saveBadValue(Due due) {
        StrawDraws x = Houses.small();
        due.are("save(..)", x::save, BAD_VALUE, MIN, NONE, -1, 2, 3, MAX);
        due.are("restore(..), nothing was saved", x::restore, NOT_POSSIBLE, 0, 1);
    }

    private static void saveIsNoChange(Due due) {
        StrawDraws x = new StrawDraws();
        x.save(0);
        x.save(1);
        due.is("count(11)", x.count(11), 0);
        x.store(1);
        x.save(0);
        due.is("count(11)", x.count(11), 1);
        due.is("undo()", x.undo(), 0);
        due.is("count(1)", x.count(1), 0);
    }

    private static void restoreKeeps(Due due) {
        StrawDraws x = Houses.apart(4, 4);
        x.store(5);
        x.save(0);
        x.drop(5);
        due.is("restore(0)", x.restore(0), 1);
        x.pin(5, 1);
        x.weigh(0, 9);
        x.store(6);
        x.down(0, true);
        due.is("restore(0), again", x.restore(0), 1);
        due.is("object(0, 1)", x.object(0, 1), NONE);
        due.is("ofServer(0, 1)", x.ofServer(0, 1), 4);
        due.is("ofServer(0, 2)", x.ofServer(0, 2), 0);
        due.is("undo()", x.undo(), 5);
        due.is("restore(0), after undo()", x.restore(0), 1);
        due.is("ofServer(0, 1)", x.ofServer(0, 1), 4);
        x.store(8);
        x.save(0);
        due.is("restore(0), what was saved last", x.restore(0), 2);
    }

    private static void restoreMoves(Due due) {
        StrawDraws x = Houses.apart(1, 1);
        x.store(5);
        x.down(1, true);
        x.save(0);
        due.moves(x, Due.row(5, 1, NONE));
        x.down(0, true);
        due.moves(x, Due.row(5, 0, NONE));
        x.restore(0);
        due.moves(x, Due.row(5, 1, NONE));
        x.undo();
        due.moves(x, Due.row(5, 0, NONE));
        x.set(SALT, 3);
        x.save(1);
        x.restore(0);
        due.moves(x, Due.row(5, 1, NONE));
        x.restore(1);
        due.moves(x);
        // The places that were before a change are those that were restored.
        x.restore(0);
        x.down(1, false);
        due.moves(x, Due.row(5, NONE, 1));
        x.restore(1);
        x.down(0, false);
        due.moves(x, Due.row(5, NONE, 0));
        StrawDraws y = Houses.small();
        y.set(SALT, 999);
        y.save(1);
        due.is("set(COPIES, 1)", y.set(COPIES, 1), 5);
        y.restore(1);
        due.moves(y, Due.row(1, 2, 0), Due.row(2, 3, 1), Due.row(9999, 1, 3));
    }

    private static void restoreIsAChange(Due due) {
        StrawDraws x = new StrawDraws();
        x.save(0);
        x.restore(0);
        due.is("count(11)", x.count(11), 1);
        x.store(1);
        x.restore(0);
        due.is("count(11)", x.count(11), 3);
        due.is("undo()", x.undo(), 2);
        due.is("count(1), as before restore(0)", x.count(1), 1);
        x.restore(2);
        x.restore(1);
        due.is("count(11), refused", x.count(11), 2);
    }

    private static void restoreSlots(Due due) {
        StrawDraws x = new StrawDraws();
        x.store(1);
        x.save(1);
        due.is("restore(0), only 1 was saved", x.restore(0), NOT_POSSIBLE);
        due.is("restore(1)", x.restore(1), 1);
        StrawDraws y = new StrawDraws();
        y.store(1);
        y.save(0);
        due.is("restore(1), only 0 was saved", y.restore(1), NOT_POSSIBLE);
        due.is("restore(0)", y.restore(0), 1);
    }

    private static void restoreKept(Due due) {
        StrawDraws x = Houses.full();
        x.save(0);
        for (int object = 0; object < 40; object++) {
            x.drop(object);
        }
        x.save(1);
        due.is("restore(0), 40", x.restore(0), 40);
        due.is("count(2)", x.count(2), 120);
        due.is("restore(1), none", x.restore(1), 0);
        due.is("count(2)", x.count(2), 0);
        due.is("restore(0), 40 again", x.restore(0), 40);
        due.is("store(40)", x.store(40), StrawDraws.TOO_MANY);
    }

    private static void restoreBadValue(Due due) {
        StrawDraws x = Houses.small();
        due.are("restore(..), nothing was saved", x::restore, BAD_VALUE, MIN, NONE, -1, 2, 3, MAX);
        x.save(0);
        x.save(1);
        due.are("restore(..)", x::restore, BAD_VALUE, MIN, NONE, -1, 2, 3, MAX);
    }

    private static void restoreNothing(Due due) {
        StrawDraws x = Houses.small();
        due.are("restore(..)", x::restore, NOT_POSSIBLE, 0, 1);
        due.is("count(1)", x.count(1), 5);
        x.save(0);
        x.undo();
        due.is("restore(1)", x.restore(1), NOT_POSSIBLE);
        due.is("restore(0)", x.restore(0), 5);
        StrawDraws y = new StrawDraws();
        y.save(1);
        due.is("restore(1), an empty object was saved", y.restore(1), 0);
    }
}
