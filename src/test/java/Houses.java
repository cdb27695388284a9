/** Objects that many tests start from. */
final class Houses {
    private Houses() {
    }

    /**
     * Servers 0 to 3 in the racks 0, 0, 1, 2 with the weights 4, 2, 3, 1, and the objects 1, 2, 3, 400 and 9999.
     * By their straws the servers stand 3, 2, 1, 0 for the objects 1, 2 and 400, and 2, 1, 0, 3 for 3 and 9999.
     */
    static StrawDraws small() {
        StrawDraws x = new StrawDraws();
        x.server(0, 4);
        x.server(0, 2);
        x.server(1, 3);
        x.server(2, 1);
        for (int object : new int[] {400, 2, 9999, 1, 3}) {
            x.store(object);
        }
        return x;
    }

    /** 12 servers, 40 objects, 3 copies of each. */
    static StrawDraws full() {
        StrawDraws x = new StrawDraws();
        x.set(StrawDraws.COPIES, 3);
        for (int server = 0; server < 12; server++) {
            x.server(server % 6, 3);
        }
        storeSome(x, 40);
        return x;
    }

    /** A server with each of these weights, in the racks 0, 1, 2 and so on: up to COPIES of them, all have copies. */
    static StrawDraws apart(int... weights) {
        StrawDraws x = new StrawDraws();
        for (int server = 0; server < weights.length; server++) {
            x.server(server, weights[server]);
        }
        return x;
    }

    /** A server with each of these weights, all in rack 0: one of them has the only copy. */
    static StrawDraws together(int... weights) {
        StrawDraws x = new StrawDraws();
        for (int weight : weights) {
            x.server(0, weight);
        }
        return x;
    }

    /** Stores the objects 0, 1, 2 and so on. */
    static void storeSome(StrawDraws x, int objects) {
        for (int object = 0; object < objects; object++) {
            x.store(object);
        }
    }
}
