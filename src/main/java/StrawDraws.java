import java.util.Arrays;

/** Objects that are laid on servers by straws; ../shared/DOC.md says what each call does. */
public final class StrawDraws {
    public static final int NO_SUCH = -1, BAD_VALUE = -2, BAD_TEXT = -3, TOO_MANY = -4, NOT_POSSIBLE = -5, NONE = -6;
    public static final int COPIES = 0, SALT = 1;

    private static final int FINE = 0;
    private static final int MOST_COPIES = 3;
    private static final int MOST_SALT = 999;
    private static final int MOST_SERVERS = 12;
    private static final int RACKS = 6;
    private static final int MOST_WEIGHT = 16;
    private static final int MOST_OBJECT = 9999;
    private static final int MOST_KEPT = 40;
    private static final int ROWS = MOST_KEPT + 1;
    // The last row is for an object that is looked at without being kept.
    private static final int LOOK_ROW = MOST_KEPT;
    private static final int MOST_MOVES = MOST_KEPT * MOST_COPIES;
    private static final int MOST_SIGNS = 60;
    private static final int MOST_DIGITS = 4;
    private static final int FIRST_SIGN = 33;
    private static final int LAST_SIGN = 126;
    private static final int SIGNS_IN_LONG = 8;
    private static final int MOST_UNDOS = 6;
    private static final int SLOTS = 2;
    private static final int THOUSAND = 1000;

    private final State now = new State();
    private final History history = new History();
    private final State[] slots = new State[SLOTS];
    private final boolean[] isSaved = new boolean[SLOTS];
    private final Straws straws = new Straws();
    private final Pad pad = new Pad();
    // Where the kept objects are; it follows from "now" and is laid again whenever that changes.
    private Layout places = new Layout();
    private Layout tried = new Layout();

    public StrawDraws() {
        for (int slot = 0; slot < SLOTS; slot++) {
            slots[slot] = new State();
        }
    }

    // ---- changes

    public int set(int setting, int value) {
        history.draft(now);
        return recorded(changeSetting(setting, value));
    }

    public int server(int rack, int weight) {
        history.draft(now);
        return recorded(buildServer(rack, weight));
    }

    public int weigh(int server, int weight) {
        history.draft(now);
        return recorded(changeWeight(server, weight));
    }

    public int toRack(int server, int rack) {
        history.draft(now);
        return recorded(changeRack(server, rack));
    }

    public int down(int server, boolean isDown) {
        history.draft(now);
        return recorded(changeDown(server, isDown));
    }

    public int store(int object) {
        history.draft(now);
        return recorded(keepObject(object));
    }

    public int drop(int object) {
        history.draft(now);
        return recorded(dropObject(object));
    }

    public int pin(int object, int server) {
        history.draft(now);
        return recorded(changePin(object, server));
    }

    // ---- what there is

    public int ofServer(int server, int what) {
        if (!now.hasServer(server)) {
            return NO_SUCH;
        }
        switch (what) {
            case 0:
                return now.rack[server];
            case 1:
                return now.weight[server];
            case 2:
                return now.isDown[server] ? 1 : 0;
            case 3:
                return places.load[server];
            case 4:
                return fairShare(server, places, now.weightsTogether());
            case 5:
                return places.firstCopies(server, now.objects);
            case 6:
                return now.pinsTo(server);
            default:
                return BAD_VALUE;
        }
    }

    public int place(int object, int copy) {
        if (object < 0 || object > MOST_OBJECT || copy < 0) {
            return BAD_VALUE;
        }
        int row = now.rowOf(object);
        if (row != NONE) {
            return places.serverOf(row, copy);
        }
        tried.clear();
        straws.draw(now, LOOK_ROW, object);
        straws.lay(now, LOOK_ROW, NONE, tried);
        return tried.serverOf(LOOK_ROW, copy);
    }

    public int straw(int server, int object) {
        if (!now.hasServer(server)) {
            return NO_SUCH;
        }
        if (object < 0 || object > MOST_OBJECT) {
            return BAD_VALUE;
        }
        if (!now.takesPart(server)) {
            return NONE;
        }
        return Straws.longest(THOUSAND * object + now.salt, server, now.weight[server]);
    }

    public int move(int move, int what) {
        if (move < 0 || move >= now.moves) {
            return NO_SUCH;
        }
        switch (what) {
            case 0:
                return now.moved[move];
            case 1:
                return now.movedFrom[move];
            case 2:
                return now.movedTo[move];
            default:
                return BAD_VALUE;
        }
    }

    public int object(int place, int what) {
        if (place < 0 || place >= now.objects) {
            return NO_SUCH;
        }
        switch (what) {
            case 0:
                return now.object[place];
            case 1:
                return now.pinnedTo[place];
            case 2:
                return places.copies[place];
            default:
                return BAD_VALUE;
        }
    }

    public int count(int what) {
        switch (what) {
            case 0:
                return now.servers;
            case 1:
                return now.objects;
            case 2:
                return places.total;
            case 3:
                return places.rowsBelow(now.copies, now.objects);
            case 4:
                return now.moves;
            case 5:
                return now.serversTakingPart();
            case 6:
                return now.weightsTogether();
            case 7:
                return mostOverloaded();
            case 8:
                return now.copies;
            case 9:
                return now.salt;
            case 10:
                return pad.length;
            case 11:
                return history.size;
            default:
                return BAD_VALUE;
        }
    }

    // ---- what if; nothing changes

    public int movesIf(int server, int weight) {
        int error = weightError(server, weight);
        if (error != FINE) {
            return error;
        }
        int ownWeight = now.weight[server];
        now.weight[server] = weight;
        layAll(tried);
        now.weight[server] = ownWeight;
        int moves = 0;
        for (int row = 0; row < now.objects; row++) {
            int had = places.serversOf(row);
            int has = tried.serversOf(row);
            moves += Math.max(Integer.bitCount(had & ~has), Integer.bitCount(has & ~had));
        }
        return moves;
    }

    public int lostWith(int server, int other) {
        if (!now.hasServer(server) || !now.hasServer(other)) {
            return NO_SUCH;
        }
        int gone = (1 << server) | (1 << other);
        int lost = 0;
        for (int row = 0; row < now.objects; row++) {
            if ((places.serversOf(row) & ~gone) == 0) {
                lost++;
            }
        }
        return lost;
    }

    public int bestWeight(int server, int what) {
        if (!now.hasServer(server)) {
            return NO_SUCH;
        }
        if (what != 0 && what != 1) {
            return BAD_VALUE;
        }
        if (now.isDown[server]) {
            return NOT_POSSIBLE;
        }
        int ownWeight = now.weight[server];
        int best = 0;
        int least = 0;
        for (int weight = 1; weight <= MOST_WEIGHT; weight++) {
            now.weight[server] = weight;
            layAll(tried);
            int sum = unevenness(tried);
            if (best == 0 || sum < least) {
                best = weight;
                least = sum;
            }
        }
        now.weight[server] = ownWeight;
        return what == 0 ? best : least;
    }

    // ---- texts

    public int put(long characters) {
        int signs = Pad.signsIn(characters);
        if (signs < 0) {
            return signs;
        }
        if (pad.length + signs > MOST_SIGNS) {
            return TOO_MANY;
        }
        pad.append(characters, signs);
        return pad.length;
    }

    public int wipe() {
        int had = pad.length;
        pad.length = 0;
        return had;
    }

    public int fault() {
        return pad.firstFault();
    }

    public int carryOut() {
        if (pad.firstFault() != NONE) {
            return BAD_TEXT;
        }
        history.draft(now);
        int done = 0;
        pad.at = 0;
        while (done < MOST_SIGNS && pad.readOrder() && carryOrder() >= 0) {
            done++;
            pad.skip(';');
        }
        pad.length = 0;
        return recorded(done);
    }

    // ---- undo, saving

    public int undo() {
        if (history.size <= 0) {
            return NOT_POSSIBLE;
        }
        history.takeLatest(now);
        layAll(places);
        return history.size;
    }

    public int save(int slot) {
        if (slot < 0 || slot >= SLOTS) {
            return BAD_VALUE;
        }
        slots[slot].copyFrom(now);
        isSaved[slot] = true;
        return now.objects;
    }

    public int restore(int slot) {
        if (slot < 0 || slot >= SLOTS) {
            return BAD_VALUE;
        }
        if (!isSaved[slot]) {
            return NOT_POSSIBLE;
        }
        history.draft(now);
        now.copyFrom(slots[slot]);
        layAll(places);
        return recorded(now.objects);
    }

    // ---- the changes themselves, without the history: the orders of a text use them, too

    private int changeSetting(int setting, int value) {
        if (setting == COPIES && value >= 1 && value <= MOST_COPIES) {
            now.copies = value;
            return findMoves();
        }
        if (setting == SALT && value >= 0 && value <= MOST_SALT) {
            now.salt = value;
            return findMoves();
        }
        return BAD_VALUE;
    }

    private int buildServer(int rack, int weight) {
        if (!isRack(rack) || !isWeight(weight)) {
            return BAD_VALUE;
        }
        if (now.servers >= MOST_SERVERS) {
            return TOO_MANY;
        }
        int server = now.servers;
        now.rack[server] = rack;
        now.weight[server] = weight;
        now.isDown[server] = false;
        now.servers++;
        findMoves();
        return server;
    }

    private int changeWeight(int server, int weight) {
        int error = weightError(server, weight);
        if (error != FINE) {
            return error;
        }
        now.weight[server] = weight;
        return findMoves();
    }

    private int changeRack(int server, int rack) {
        if (!now.hasServer(server)) {
            return NO_SUCH;
        }
        if (!isRack(rack)) {
            return BAD_VALUE;
        }
        now.rack[server] = rack;
        return findMoves();
    }

    private int changeDown(int server, boolean isDown) {
        if (!now.hasServer(server)) {
            return NO_SUCH;
        }
        if (now.isDown[server] == isDown) {
            return NOT_POSSIBLE;
        }
        now.isDown[server] = isDown;
        return findMoves();
    }

    private int keepObject(int object) {
        if (object < 0 || object > MOST_OBJECT) {
            return BAD_VALUE;
        }
        if (now.objects >= MOST_KEPT) {
            return TOO_MANY;
        }
        if (now.rowOf(object) != NONE) {
            return NOT_POSSIBLE;
        }
        int row = now.insert(object);
        layAll(places);
        return places.copies[row];
    }

    private int dropObject(int object) {
        int row = now.rowOf(object);
        if (row == NONE) {
            return NO_SUCH;
        }
        now.remove(row);
        layAll(places);
        return now.objects;
    }

    private int changePin(int object, int server) {
        int row = now.rowOf(object);
        if (row == NONE || server != NONE && !now.hasServer(server)) {
            return NO_SUCH;
        }
        now.pinnedTo[row] = server;
        return findMoves();
    }

    private int carryOrder() {
        switch (pad.kind) {
            case '+':
                return keepObject(pad.first);
            case '-':
                return dropObject(pad.first);
            case 'w':
                return changeWeight(pad.first, pad.second);
            case 'd':
                return changeDown(pad.first, true);
            case 'u':
                return changeDown(pad.first, false);
            case 'p':
                return changePin(pad.first, pad.second);
            default:
                return BAD_TEXT;
        }
    }

    // ---- what the calls share

    /** Takes the state that was drafted before a change into the history, if the change was made. */
    private int recorded(int answer) {
        if (answer >= 0) {
            history.keepDraft();
        }
        return answer;
    }

    private int weightError(int server, int weight) {
        if (!now.hasServer(server)) {
            return NO_SUCH;
        }
        return isWeight(weight) ? FINE : BAD_VALUE;
    }

    private static boolean isWeight(int weight) {
        return weight >= 0 && weight <= MOST_WEIGHT;
    }

    private static boolean isRack(int rack) {
        return rack >= 0 && rack < RACKS;
    }

    private void layAll(Layout layout) {
        layout.clear();
        for (int row = 0; row < now.objects; row++) {
            straws.draw(now, row, now.object[row]);
            straws.lay(now, row, now.pinnedTo[row], layout);
        }
    }

    /** Lays the kept objects anew after a change that matters for places; answers how many moves there are. */
    private int findMoves() {
        layAll(tried);
        now.moves = 0;
        for (int row = 0; row < now.objects; row++) {
            int had = places.serversOf(row);
            int has = tried.serversOf(row);
            now.addMoves(now.object[row], had & ~has, has & ~had);
        }
        Layout before = places;
        places = tried;
        tried = before;
        return now.moves;
    }

    private int fairShare(int server, Layout layout, int weightsTogether) {
        if (!now.takesPart(server) || weightsTogether <= 0) {
            return 0;
        }
        return THOUSAND * layout.total * now.weight[server] / weightsTogether;
    }

    private int unevenness(Layout layout) {
        int weightsTogether = now.weightsTogether();
        int sum = 0;
        for (int server = 0; server < now.servers; server++) {
            if (now.takesPart(server)) {
                sum += Math.abs(THOUSAND * layout.load[server] - fairShare(server, layout, weightsTogether));
            }
        }
        return sum;
    }

    private int mostOverloaded() {
        int weightsTogether = now.weightsTogether();
        int worst = NONE;
        int most = 0;
        for (int server = 0; server < now.servers; server++) {
            if (now.takesPart(server)) {
                int above = THOUSAND * places.load[server] - fairShare(server, places, weightsTogether);
                if (worst == NONE || above > most) {
                    worst = server;
                    most = above;
                }
            }
        }
        return worst;
    }

    /** All that undo and the slots bring back. */
    private static final class State {
        int copies = 2;
        int salt = 0;
        int servers = 0;
        final int[] rack = new int[MOST_SERVERS];
        final int[] weight = new int[MOST_SERVERS];
        final boolean[] isDown = new boolean[MOST_SERVERS];
        int objects = 0;
        final int[] object = new int[MOST_KEPT];
        final int[] pinnedTo = new int[MOST_KEPT];
        int moves = 0;
        final int[] moved = new int[MOST_MOVES];
        final int[] movedFrom = new int[MOST_MOVES];
        final int[] movedTo = new int[MOST_MOVES];

        void copyFrom(State other) {
            copies = other.copies;
            salt = other.salt;
            servers = other.servers;
            System.arraycopy(other.rack, 0, rack, 0, servers);
            System.arraycopy(other.weight, 0, weight, 0, servers);
            System.arraycopy(other.isDown, 0, isDown, 0, servers);
            objects = other.objects;
            System.arraycopy(other.object, 0, object, 0, objects);
            System.arraycopy(other.pinnedTo, 0, pinnedTo, 0, objects);
            moves = other.moves;
            System.arraycopy(other.moved, 0, moved, 0, moves);
            System.arraycopy(other.movedFrom, 0, movedFrom, 0, moves);
            System.arraycopy(other.movedTo, 0, movedTo, 0, moves);
        }

        boolean hasServer(int server) {
            return server >= 0 && server < servers;
        }

        boolean takesPart(int server) {
            return server >= 0 && server < servers && !isDown[server] && weight[server] > 0;
        }

        int serversTakingPart() {
            int found = 0;
            for (int server = 0; server < servers; server++) {
                if (takesPart(server)) {
                    found++;
                }
            }
            return found;
        }

        int weightsTogether() {
            int sum = 0;
            for (int server = 0; server < servers; server++) {
                if (takesPart(server)) {
                    sum += weight[server];
                }
            }
            return sum;
        }

        int pinsTo(int server) {
            int found = 0;
            for (int row = 0; row < objects; row++) {
                if (pinnedTo[row] == server) {
                    found++;
                }
            }
            return found;
        }

        /** The row of a kept object, or NONE. */
        int rowOf(int wanted) {
            for (int row = 0; row < objects; row++) {
                if (object[row] == wanted) {
                    return row;
                }
            }
            return NONE;
        }

        /** The caller has looked that there is room, and that it is not kept yet. */
        int insert(int added) {
            int row = objects;
            while (row > 0 && object[row - 1] > added) {
                object[row] = object[row - 1];
                pinnedTo[row] = pinnedTo[row - 1];
                row--;
            }
            object[row] = added;
            pinnedTo[row] = NONE;
            objects++;
            return row;
        }

        void remove(int removed) {
            for (int row = removed; row + 1 < objects; row++) {
                object[row] = object[row + 1];
                pinnedTo[row] = pinnedTo[row + 1];
            }
            objects--;
        }

        /** Pairs the servers of two sets, given as bits, in ascending order. */
        void addMoves(int mover, int lost, int gained) {
            for (int nth = 0; nth < MOST_COPIES; nth++) {
                int from = nthServer(lost, nth);
                int to = nthServer(gained, nth);
                if (from == NONE && to == NONE || moves >= MOST_MOVES) {
                    return;
                }
                moved[moves] = mover;
                movedFrom[moves] = from;
                movedTo[moves] = to;
                moves++;
            }
        }

        private static int nthServer(int set, int nth) {
            int before = 0;
            for (int server = 0; server < MOST_SERVERS; server++) {
                if ((set >> server & 1) == 1) {
                    if (before == nth) {
                        return server;
                    }
                    before++;
                }
            }
            return NONE;
        }
    }

    /** The servers of each kept object's copies, by the object's row, and the loads that follow. */
    private static final class Layout {
        final int[] copies = new int[ROWS];
        final int[] servers = new int[ROWS * MOST_COPIES];
        final int[] load = new int[MOST_SERVERS];
        int total = 0;

        void clear() {
            Arrays.fill(copies, 0);
            Arrays.fill(load, 0);
            total = 0;
        }

        void add(int row, int server) {
            if (copies[row] >= MOST_COPIES) {
                return;
            }
            servers[row * MOST_COPIES + copies[row]] = server;
            copies[row]++;
            load[server]++;
            total++;
        }

        int serverOf(int row, int copy) {
            if (copy < 0 || copy >= copies[row]) {
                return NONE;
            }
            return servers[row * MOST_COPIES + copy];
        }

        /** The servers with a copy, as bits, so that rows can be taken from one another. */
        int serversOf(int row) {
            int set = 0;
            for (int copy = 0; copy < copies[row]; copy++) {
                set |= 1 << servers[row * MOST_COPIES + copy];
            }
            return set;
        }

        int firstCopies(int server, int rows) {
            int found = 0;
            for (int row = 0; row < rows; row++) {
                if (serverOf(row, 0) == server) {
                    found++;
                }
            }
            return found;
        }

        int rowsBelow(int wantedCopies, int rows) {
            int found = 0;
            for (int row = 0; row < rows; row++) {
                if (copies[row] < wantedCopies) {
                    found++;
                }
            }
            return found;
        }
    }

    /** Draws straws and lays one object by them. */
    private static final class Straws {
        // A straw depends on the object, SALT, the server and its weight alone, so a length
        // that was drawn for the same ones holds still; most changes touch few of them.
        private final int[] length = new int[ROWS * MOST_SERVERS];
        private final int[] drawnFor = new int[ROWS * MOST_SERVERS];

        void draw(State state, int row, int object) {
            int seed = THOUSAND * object + state.salt;
            for (int server = 0; server < state.servers; server++) {
                if (state.takesPart(server)) {
                    int cell = row * MOST_SERVERS + server;
                    int weight = state.weight[server];
                    // Never 0, the first value of a cell, since the weight is not 0.
                    int drawing = seed * (MOST_WEIGHT + 1) + weight;
                    if (drawnFor[cell] != drawing) {
                        length[cell] = longest(seed, server, weight);
                        drawnFor[cell] = drawing;
                    }
                }
            }
        }

        /** Its straws have to be drawn in this row. */
        void lay(State state, int row, int pin, Layout layout) {
            int takenRacks = 0;
            for (int copy = 0; copy < state.copies; copy++) {
                boolean toPin = copy == 0 && state.takesPart(pin);
                int server = toPin ? pin : highest(state, row, takenRacks);
                if (server == NONE) {
                    return;
                }
                layout.add(row, server);
                takenRacks |= 1 << state.rack[server];
            }
        }

        private int highest(State state, int row, int takenRacks) {
            int best = NONE;
            int longest = 0;
            for (int server = 0; server < state.servers; server++) {
                if (state.takesPart(server) && (takenRacks >> state.rack[server] & 1) == 0) {
                    int own = length[row * MOST_SERVERS + server];
                    if (best == NONE || own > longest) {
                        best = server;
                        longest = own;
                    }
                }
            }
            return best;
        }

        static int longest(int seed, int server, int weight) {
            int ofServer = stir(stir(seed) + 7919 * (server + 1));
            int longest = 0;
            for (int straw = 0; straw < weight; straw++) {
                longest = Math.max(longest, stir(ofServer + 104729 * (straw + 1)));
            }
            return longest;
        }

        // What is left over by 2147483648 are the lowest 31 bits, which wrapping round leaves right.
        private static int stir(int x) {
            return (x * 1103515245 + 12345) & 0x7fffffff;
        }
    }

    /** The latest states, and behind them a draft that counts once the change is made. */
    private static final class History {
        private static final int ROOM = MOST_UNDOS + 1;
        private final State[] states = new State[ROOM];
        private int oldest = 0;
        int size = 0;

        History() {
            for (int place = 0; place < ROOM; place++) {
                states[place] = new State();
            }
        }

        void draft(State state) {
            states[(oldest + size) % ROOM].copyFrom(state);
        }

        void keepDraft() {
            if (size < MOST_UNDOS) {
                size++;
            } else {
                oldest = (oldest + 1) % ROOM;
            }
        }

        void takeLatest(State state) {
            if (size > 0) {
                size--;
                state.copyFrom(states[(oldest + size) % ROOM]);
            }
        }
    }

    /** The text of orders, and a reader in it. */
    private static final class Pad {
        private final char[] signs = new char[MOST_SIGNS];
        int length = 0;
        int at = 0;
        char kind = ' ';
        int first = 0;
        int second = 0;

        /** How many characters a number gives, or BAD_VALUE. */
        static int signsIn(long characters) {
            long rest = characters;
            int found = 0;
            while (rest != 0 && found < SIGNS_IN_LONG) {
                long code = rest & 255;
                if (code < FIRST_SIGN || code > LAST_SIGN) {
                    return BAD_VALUE;
                }
                rest >>>= 8;
                found++;
            }
            return found == 0 ? BAD_VALUE : found;
        }

        /** The caller has looked that there is room. */
        void append(long characters, int count) {
            for (int back = 0; back < count; back++) {
                signs[length + count - 1 - back] = (char) ((characters >>> (8 * back)) & 255);
            }
            length += count;
        }

        int firstFault() {
            at = 0;
            for (int order = 0; order < MOST_SIGNS; order++) {
                if (!readOrder()) {
                    return at;
                }
                if (at >= length) {
                    return NONE;
                }
                if (!skip(';')) {
                    return at;
                }
            }
            return at;
        }

        /** Reads one order; if it fails, the reader stands where the fault is. */
        boolean readOrder() {
            if (at >= length) {
                return false;
            }
            kind = signs[at];
            switch (kind) {
                case '+':
                case '-':
                case 'd':
                case 'u':
                    at++;
                    return readFirst();
                case 'w':
                    at++;
                    return readFirst() && skip('=') && readSecond();
                case 'p':
                    at++;
                    return readFirst() && skip('@') && (readNone() || readSecond());
                default:
                    return false;
            }
        }

        boolean skip(char sign) {
            if (at >= length || signs[at] != sign) {
                return false;
            }
            at++;
            return true;
        }

        private boolean readNone() {
            second = NONE;
            return skip('-');
        }

        private boolean readFirst() {
            first = readNumber();
            return first != NONE;
        }

        private boolean readSecond() {
            second = readNumber();
            return second != NONE;
        }

        /** Stops behind a leading 0 and behind the fourth digit: a digit more cannot stand there. */
        private int readNumber() {
            if (skip('0')) {
                return 0;
            }
            int number = 0;
            int digits = 0;
            while (digits < MOST_DIGITS && at < length && signs[at] >= '0' && signs[at] <= '9') {
                number = number * 10 + (signs[at] - '0');
                digits++;
                at++;
            }
            return digits == 0 ? NONE : number;
        }
    }
}
