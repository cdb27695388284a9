import java.util.ArrayDeque;
import java.util.ArrayList;
import java.util.Deque;
import java.util.List;
import java.util.Map;
import java.util.TreeMap;
import java.util.regex.Pattern;

/** The document once more, in the slowest and most literal form: what the class is compared with. */
final class Model {
    static final int NO_SUCH = -1, BAD_VALUE = -2, BAD_TEXT = -3, TOO_MANY = -4, NOT_POSSIBLE = -5, NONE = -6;

    private static final class Server {
        int rack;
        int weight;
        boolean isDown;
    }

    private static final class State {
        int copies = 2;
        int salt = 0;
        List<Server> servers = new ArrayList<>();
        TreeMap<Integer, Integer> pins = new TreeMap<>();
        List<int[]> moves = new ArrayList<>();

        State copy() {
            State copy = new State();
            copy.copies = copies;
            copy.salt = salt;
            for (Server server : servers) {
                Server other = new Server();
                other.rack = server.rack;
                other.weight = server.weight;
                other.isDown = server.isDown;
                copy.servers.add(other);
            }
            copy.pins.putAll(pins);
            copy.moves.addAll(moves);
            return copy;
        }

        boolean has(int server) {
            return server >= 0 && server < servers.size();
        }

        boolean takesPart(int server) {
            return has(server) && !servers.get(server).isDown && servers.get(server).weight != 0;
        }

        List<Integer> takingPart() {
            List<Integer> found = new ArrayList<>();
            for (int s = 0; s < servers.size(); s++) {
                if (takesPart(s)) {
                    found.add(s);
                }
            }
            return found;
        }

        long weights() {
            return takingPart().stream().mapToLong(s -> servers.get(s).weight).sum();
        }

        long straw(int server, int object) {
            long best = -1;
            for (int k = 0; k < servers.get(server).weight; k++) {
                long x = 1000L * object + salt;
                x = stir(x);
                x = stir(x + 7919L * (server + 1));
                x = stir(x + 104729L * (k + 1));
                best = Math.max(best, x);
            }
            return best;
        }

        static long stir(long x) {
            return (x * 1103515245L + 12345L) % 2147483648L;
        }

        List<Integer> places(int object) {
            List<Integer> order = takingPart();
            order.sort((a, b) -> straw(a, object) != straw(b, object)
                    ? Long.compare(straw(b, object), straw(a, object)) : Integer.compare(a, b));
            int pin = pins.getOrDefault(object, NONE);
            if (takesPart(pin)) {
                order.add(0, pin);
            }
            List<Integer> places = new ArrayList<>();
            for (int server : order) {
                boolean rackIsFree = places.stream()
                        .noneMatch(p -> servers.get(p).rack == servers.get(server).rack);
                if (rackIsFree && places.size() < copies) {
                    places.add(server);
                }
            }
            return places;
        }

        Map<Integer, List<Integer>> allPlaces() {
            Map<Integer, List<Integer>> all = new TreeMap<>();
            for (int object : pins.keySet()) {
                all.put(object, places(object));
            }
            return all;
        }

        long allCopies() {
            return allPlaces().values().stream().mapToLong(List::size).sum();
        }

        long load(int server) {
            return allPlaces().values().stream().filter(p -> p.contains(server)).count();
        }

        long share(int server) {
            return takesPart(server) ? 1000 * allCopies() * servers.get(server).weight / weights() : 0;
        }

        List<int[]> movesFrom(Map<Integer, List<Integer>> before) {
            List<int[]> found = new ArrayList<>();
            Map<Integer, List<Integer>> after = allPlaces();
            for (int object : pins.keySet()) {
                List<Integer> lost = new ArrayList<>(before.get(object));
                lost.removeAll(after.get(object));
                lost.sort(null);
                List<Integer> gained = new ArrayList<>(after.get(object));
                gained.removeAll(before.get(object));
                gained.sort(null);
                for (int i = 0; i < Math.max(lost.size(), gained.size()); i++) {
                    found.add(new int[] {object, i < lost.size() ? lost.get(i) : NONE,
                        i < gained.size() ? gained.get(i) : NONE});
                }
            }
            return found;
        }
    }

    private State now = new State();
    private final Deque<State> history = new ArrayDeque<>();
    private final State[] slots = new State[2];
    private String pad = "";

    private interface Change {
        int make();
    }

    private int change(Change change) {
        State before = now.copy();
        int answer = change.make();
        if (answer >= 0) {
            history.addLast(before);
            if (history.size() > 6) {
                history.removeFirst();
            }
        }
        return answer;
    }

    private int moved(Map<Integer, List<Integer>> before) {
        now.moves = now.movesFrom(before);
        return now.moves.size();
    }

    int set(int setting, int value) {
        return change(() -> {
            Map<Integer, List<Integer>> before = now.allPlaces();
            if (setting == 0 && value >= 1 && value <= 3) {
                now.copies = value;
            } else if (setting == 1 && value >= 0 && value <= 999) {
                now.salt = value;
            } else {
                return BAD_VALUE;
            }
            return moved(before);
        });
    }

    int server(int rack, int weight) {
        return change(() -> {
            if (rack < 0 || rack > 5 || weight < 0 || weight > 16) {
                return BAD_VALUE;
            }
            if (now.servers.size() == 12) {
                return TOO_MANY;
            }
            Map<Integer, List<Integer>> before = now.allPlaces();
            Server built = new Server();
            built.rack = rack;
            built.weight = weight;
            now.servers.add(built);
            moved(before);
            return now.servers.size() - 1;
        });
    }

    int weigh(int server, int weight) {
        return change(() -> weighOrder(server, weight));
    }

    private int weighOrder(int server, int weight) {
        if (!now.has(server)) {
            return NO_SUCH;
        }
        if (weight < 0 || weight > 16) {
            return BAD_VALUE;
        }
        Map<Integer, List<Integer>> before = now.allPlaces();
        now.servers.get(server).weight = weight;
        return moved(before);
    }

    int toRack(int server, int rack) {
        return change(() -> {
            if (!now.has(server)) {
                return NO_SUCH;
            }
            if (rack < 0 || rack > 5) {
                return BAD_VALUE;
            }
            Map<Integer, List<Integer>> before = now.allPlaces();
            now.servers.get(server).rack = rack;
            return moved(before);
        });
    }

    int down(int server, boolean isDown) {
        return change(() -> downOrder(server, isDown));
    }

    private int downOrder(int server, boolean isDown) {
        if (!now.has(server)) {
            return NO_SUCH;
        }
        if (now.servers.get(server).isDown == isDown) {
            return NOT_POSSIBLE;
        }
        Map<Integer, List<Integer>> before = now.allPlaces();
        now.servers.get(server).isDown = isDown;
        return moved(before);
    }

    int store(int object) {
        return change(() -> storeOrder(object));
    }

    private int storeOrder(int object) {
        if (object < 0 || object > 9999) {
            return BAD_VALUE;
        }
        if (now.pins.size() == 40) {
            return TOO_MANY;
        }
        if (now.pins.containsKey(object)) {
            return NOT_POSSIBLE;
        }
        now.pins.put(object, NONE);
        return now.places(object).size();
    }

    int drop(int object) {
        return change(() -> dropOrder(object));
    }

    private int dropOrder(int object) {
        if (now.pins.remove(object) == null) {
            return NO_SUCH;
        }
        return now.pins.size();
    }

    int pin(int object, int server) {
        return change(() -> pinOrder(object, server));
    }

    private int pinOrder(int object, int server) {
        if (!now.pins.containsKey(object) || server != NONE && !now.has(server)) {
            return NO_SUCH;
        }
        Map<Integer, List<Integer>> before = now.allPlaces();
        now.pins.put(object, server);
        return moved(before);
    }

    int ofServer(int server, int what) {
        if (!now.has(server)) {
            return NO_SUCH;
        }
        Server it = now.servers.get(server);
        return switch (what) {
            case 0 -> it.rack;
            case 1 -> it.weight;
            case 2 -> it.isDown ? 1 : 0;
            case 3 -> (int) now.load(server);
            case 4 -> (int) now.share(server);
            case 5 -> (int) now.allPlaces().values().stream()
                    .filter(p -> !p.isEmpty() && p.get(0) == server).count();
            case 6 -> (int) now.pins.values().stream().filter(p -> p == server).count();
            default -> BAD_VALUE;
        };
    }

    int place(int object, int copy) {
        if (object < 0 || object > 9999 || copy < 0) {
            return BAD_VALUE;
        }
        List<Integer> places = now.places(object);
        return copy < places.size() ? places.get(copy) : NONE;
    }

    int straw(int server, int object) {
        if (!now.has(server)) {
            return NO_SUCH;
        }
        if (object < 0 || object > 9999) {
            return BAD_VALUE;
        }
        return now.takesPart(server) ? (int) now.straw(server, object) : NONE;
    }

    int move(int move, int what) {
        if (move < 0 || move >= now.moves.size()) {
            return NO_SUCH;
        }
        return what < 0 || what > 2 ? BAD_VALUE : now.moves.get(move)[what];
    }

    int object(int place, int what) {
        if (place < 0 || place >= now.pins.size()) {
            return NO_SUCH;
        }
        int object = new ArrayList<>(now.pins.keySet()).get(place);
        return switch (what) {
            case 0 -> object;
            case 1 -> now.pins.get(object);
            case 2 -> now.places(object).size();
            default -> BAD_VALUE;
        };
    }

    int count(int what) {
        return switch (what) {
            case 0 -> now.servers.size();
            case 1 -> now.pins.size();
            case 2 -> (int) now.allCopies();
            case 3 -> (int) now.allPlaces().values().stream().filter(p -> p.size() < now.copies).count();
            case 4 -> now.moves.size();
            case 5 -> now.takingPart().size();
            case 6 -> (int) now.weights();
            case 7 -> mostAbove();
            case 8 -> now.copies;
            case 9 -> now.salt;
            case 10 -> pad.length();
            case 11 -> history.size();
            default -> BAD_VALUE;
        };
    }

    private int mostAbove() {
        int found = NONE;
        long most = Long.MIN_VALUE;
        for (int server : now.takingPart()) {
            long above = 1000 * now.load(server) - now.share(server);
            if (above > most) {
                found = server;
                most = above;
            }
        }
        return found;
    }

    int movesIf(int server, int weight) {
        State held = now;
        now = held.copy();
        int answer = weighOrder(server, weight);
        now = held;
        return answer;
    }

    int lostWith(int server, int other) {
        if (!now.has(server) || !now.has(other)) {
            return NO_SUCH;
        }
        return (int) now.allPlaces().values().stream()
                .filter(p -> p.stream().allMatch(s -> s == server || s == other)).count();
    }

    int bestWeight(int server, int what) {
        if (!now.has(server)) {
            return NO_SUCH;
        }
        if (what != 0 && what != 1) {
            return BAD_VALUE;
        }
        if (now.servers.get(server).isDown) {
            return NOT_POSSIBLE;
        }
        State held = now;
        now = held.copy();
        long least = Long.MAX_VALUE;
        int best = 0;
        for (int weight = 1; weight <= 16; weight++) {
            now.servers.get(server).weight = weight;
            long sum = 0;
            Map<Integer, List<Integer>> all = now.allPlaces();
            long copies = all.values().stream().mapToLong(List::size).sum();
            for (int s : now.takingPart()) {
                long load = all.values().stream().filter(p -> p.contains(s)).count();
                sum += Math.abs(1000 * load - 1000 * copies * now.servers.get(s).weight / now.weights());
            }
            if (sum < least) {
                least = sum;
                best = weight;
            }
        }
        now = held;
        return what == 0 ? best : (int) least;
    }

    int put(long characters) {
        StringBuilder text = new StringBuilder();
        boolean hasEnded = false;
        for (int i = 0; i < 8; i++) {
            int code = (int) (characters >>> 8 * i) & 0xff;
            if (code == 0) {
                hasEnded = true;
            } else if (hasEnded || code < 33 || code > 126) {
                return BAD_VALUE;
            } else {
                text.insert(0, (char) code);
            }
        }
        if (text.length() == 0) {
            return BAD_VALUE;
        }
        if (pad.length() + text.length() > 60) {
            return TOO_MANY;
        }
        pad += text;
        return pad.length();
    }

    int wipe() {
        int had = pad.length();
        pad = "";
        return had;
    }

    private static final String NUMBER = "(0|[1-9][0-9]{0,3})";
    private static final String ORDER = "([-+du]" + NUMBER + "|w" + NUMBER + "=" + NUMBER + "|p" + NUMBER + "@("
            + NUMBER + "|-))";
    private static final Pattern TEXT = Pattern.compile(ORDER + "(;" + ORDER + ")*");
    // Each beginning of a text becomes a text by one of these, so what none completes is no beginning.
    private static final String[] ENDS = {"", "0", "=0", "0=0", "@0", "0@0", "+0"};

    private static boolean isBeginning(String text) {
        for (String end : ENDS) {
            if (TEXT.matcher(text + end).matches()) {
                return true;
            }
        }
        return false;
    }

    int fault() {
        for (int i = 0; i < pad.length(); i++) {
            if (!isBeginning(pad.substring(0, i + 1))) {
                return i;
            }
        }
        return TEXT.matcher(pad).matches() ? NONE : pad.length();
    }

    int carryOut() {
        if (fault() != NONE) {
            return BAD_TEXT;
        }
        return change(() -> {
            int done = 0;
            for (String order : pad.split(";")) {
                if (carry(order) < 0) {
                    break;
                }
                done++;
            }
            pad = "";
            return done;
        });
    }

    private int carry(String order) {
        String[] parts = order.substring(1).split("[=@]");
        int first = Integer.parseInt(parts[0]);
        return switch (order.charAt(0)) {
            case '+' -> storeOrder(first);
            case '-' -> dropOrder(first);
            case 'w' -> weighOrder(first, Integer.parseInt(parts[1]));
            case 'd' -> downOrder(first, true);
            case 'u' -> downOrder(first, false);
            default -> pinOrder(first, parts[1].equals("-") ? NONE : Integer.parseInt(parts[1]));
        };
    }

    int undo() {
        if (history.isEmpty()) {
            return NOT_POSSIBLE;
        }
        now = history.removeLast();
        return history.size();
    }

    int save(int slot) {
        if (slot < 0 || slot > 1) {
            return BAD_VALUE;
        }
        slots[slot] = now.copy();
        return now.pins.size();
    }

    int restore(int slot) {
        if (slot < 0 || slot > 1) {
            return BAD_VALUE;
        }
        if (slots[slot] == null) {
            return NOT_POSSIBLE;
        }
        return change(() -> {
            now = slots[slot].copy();
            return now.pins.size();
        });
    }
}
