/** What can be found out about an object, as a text, so that two objects can be compared. */
final class Looks {
    interface Calls {
        void on(StrawDraws x);
    }

    private Looks() {
    }

    /** All that is seen at once: some 60 calls for a small house, few enough for seven looks at one object. */
    static String now(StrawDraws x) {
        return "pad " + x.count(10) + ' ' + x.fault() + ", history " + x.count(11) + ", " + state(x);
    }

    /** All that undo and the slots bring back. */
    static String state(StrawDraws x) {
        StringBuilder text = new StringBuilder("counts");
        for (int what = 0; what <= 9; what++) {
            text.append(' ').append(x.count(what));
        }
        int servers = x.count(0);
        for (int server = 0; server < servers; server++) {
            text.append(", server");
            for (int what = 0; what <= 6; what++) {
                text.append(' ').append(x.ofServer(server, what));
            }
        }
        int objects = x.count(1);
        for (int place = 0; place < objects; place++) {
            int object = x.object(place, 0);
            text.append(", object ").append(object).append(' ').append(x.object(place, 1));
            for (int copy = 0; copy < 3; copy++) {
                text.append(' ').append(x.place(object, copy));
            }
        }
        int moves = x.count(4);
        for (int move = 0; move < moves; move++) {
            text.append(", move");
            for (int what = 0; what <= 2; what++) {
                text.append(' ').append(x.move(move, what));
            }
        }
        return text.toString();
    }

    /** The pad, the history and the slots, too: to look at them changes an object, so each look has a new one. */
    static String everything(Calls calls) {
        StrawDraws seen = made(calls);
        StringBuilder text = new StringBuilder("now: ").append(now(seen));
        StrawDraws carried = made(calls);
        text.append("\ncarried out: ").append(carried.carryOut()).append(' ').append(now(carried));
        for (int slot = 0; slot < 2; slot++) {
            StrawDraws restored = made(calls);
            text.append("\nrestored: ").append(restored.restore(slot)).append(' ').append(now(restored));
        }
        StrawDraws undone = made(calls);
        for (int undo = 0; undo < 7; undo++) {
            int left = undone.undo();
            text.append("\nundone: ").append(left);
            if (left >= 0 && undone.count(0) <= 3) {
                text.append(' ').append(now(undone));
            }
        }
        return text.toString();
    }

    private static StrawDraws made(Calls calls) {
        StrawDraws x = new StrawDraws();
        calls.on(x);
        return x;
    }
}
