import java.io.IOException;

/** The sentences of the promises 19 to 22 that name a boundary, each with a test of its own. */
public final class EdgesOfTextsTest {
    private static final int NO_SUCH = StrawDraws.NO_SUCH;
    private static final int BAD_VALUE = StrawDraws.BAD_VALUE;
    private static final int BAD_TEXT = StrawDraws.BAD_TEXT;
    private static final int TOO_MANY = StrawDraws.TOO_MANY;
    private static final int NOT_POSSIBLE = StrawDraws.NOT_POSSIBLE;
    private static final int NONE = StrawDraws.NONE;
    private static final int COPIES = StrawDraws.COPIES;

    private EdgesOfTextsTest() {
    }

    public static void main(String[] args) throws IOException {
        Edges edges = new Edges();
        putOrder(edges.of("Promise 19", "its lowest 8 bits are the last character, the next 8 bits the one before, and "
                + "so on"));
        putNoMore(edges.of("Promise 19", "8 bits that are 0 mean that there are no more characters, and everything "
                + "above them has to be 0, too."));
        putOneToEight(edges.of("Promise 19", "- `characters`: 1 to 8 characters"));
        putLength(edges.of("Promise 19", "Returns the length of the pad then"));
        putNone(edges.of("Promise 19", "BAD_VALUE if there is no character"));
        putCodes(edges.of("Promise 19", "a code is not 33 to 126"));
        putBitsAbove(edges.of("Promise 19", "or a bit above 8 bits that are 0 is not 0"));
        putTooMany(edges.of("Promise 19", "TOO_MANY if the pad would be longer than 60."));

        wipe(edges.of("Promise 20", "Empties the pad, and returns the length that it had."));

        fault(edges.of("Promise 21", "Returns the fault of the pad"));
        faultNone(edges.of("Promise 21", "NONE if there is none."));

        carryUpToAnError(edges.of("Promise 22", "Carries the orders of the pad out, one after the other, up to the "
                + "first one that returns an error"));
        carryEachError(edges.of("Promise 22", "the first one that returns an error"));
        carryEmpties(edges.of("Promise 22", "and empties the pad."));
        carryIsOneChange(edges.of("Promise 22", "This is a change (one, with all of them; also if none is carried "
                + "out)."));
        carryNumber(edges.of("Promise 22", "Returns how many orders were carried out"));
        carryBadText(edges.of("Promise 22", "BAD_TEXT if the pad has a fault (then it stays)."));
        carryMoves(edges.of("Promise 13", "the latest change that matters for places"));
        edges.end();
    }

    private static StrawDraws padWith(String text) {
        StrawDraws x = Houses.apart(1, 1);
        Due.putText(x, text);
        return x;
    }

    private static void putOrder(Due due) {
        StrawDraws x = new StrawDraws();
        due.is("put of +12", x.put('+' << 16 | '1' << 8 | '2'), 3);
        x.put(';');
        due.is("put of +3456, the highest bits", x.put((long) '+' << 32 | 0x33343536), 9);
        due.is("carryOut()", x.carryOut(), 2);
        due.is("object(0, 0)", x.object(0, 0), 12);
        due.is("object(1, 0)", x.object(1, 0), 3456);
        // The sign bit is 0 for each code, so the eighth character has all its seven bits.
        due.is("put of ~~~~~~~~", x.put(0x7e7e7e7e7e7e7e7eL), 8);
        x.wipe();
        due.is("put of p3456@1;", x.put(Due.packed("p3456@1;")), 8);
        due.is("put of p12@0", x.put(Due.packed("p12@0")), 13);
    }

    private static void putNoMore(Due due) {
        StrawDraws x = new StrawDraws();
        for (int characters = 1; characters <= 8; characters++) {
            due.is(characters + " characters", x.put(Due.packed("12345678".substring(0, characters))), characters);
            x.wipe();
        }
        for (int zero = 0; zero < 8; zero++) {
            long hole = 0x3131313131313131L & ~(0xffL << 8 * zero);
            due.is("8 bits that are 0 at " + zero, x.put(hole), zero == 7 ? 7 : BAD_VALUE);
        }
    }

    private static void putOneToEight(Due due) {
        StrawDraws x = new StrawDraws();
        due.is("one", x.put('+'), 1);
        due.is("eight", x.put(Due.packed("1;+2;+3;")), 9);
        due.is("none", x.put(0), BAD_VALUE);
        due.is("count(10)", x.count(10), 9);
    }

    private static void putLength(Due due) {
        StrawDraws x = new StrawDraws();
        for (int length = 1; length <= 60; length++) {
            due.is("put of one more", x.put('!'), length);
        }
        x.wipe();
        due.is("put, wiped before", x.put('!'), 1);
        Due.putText(x, "++");
        due.is("put of eight more", x.put(Due.packed("########")), 11);
    }

    private static void putNone(Due due) {
        StrawDraws x = new StrawDraws();
        due.is("put(0)", x.put(0), BAD_VALUE);
        due.is("put, no last character", x.put(0x2b00), BAD_VALUE);
        due.is("put, seven characters ahead of none", x.put(0x3131313131313100L), BAD_VALUE);
        due.is("put, only the highest bit", x.put(Long.MIN_VALUE), BAD_VALUE);
        due.is("count(10)", x.count(10), 0);
        due.is("fault()", x.fault(), 0);
    }

    private static void putCodes(Due due) {
        StrawDraws x = new StrawDraws();
        for (int code = 0; code <= 255; code++) {
            boolean isRight = code >= 33 && code <= 126;
            due.is("put of the code " + code, x.put(code), isRight ? 1 : BAD_VALUE);
            x.wipe();
        }
        int[] wrong = {1, 32, 127, 128, 255};
        for (int place = 0; place < 8; place++) {
            for (int code : wrong) {
                long number = 0x3131313131313131L & ~(0xffL << 8 * place);
                StrawDraws y = new StrawDraws();
                due.is("put of the code " + code + " at " + place, y.put(number | (long) code << 8 * place), BAD_VALUE);
                due.is("count(10)", y.count(10), 0);
            }
        }
        StrawDraws z = new StrawDraws();
        due.is("put(-1)", z.put(-1), BAD_VALUE);
        due.is("put(MAX)", z.put(Long.MAX_VALUE), BAD_VALUE);
    }

    private static void putBitsAbove(Due due) {
        StrawDraws x = new StrawDraws();
        for (int bit = 16; bit < 64; bit++) {
            due.is("the bit " + bit + " above one character", x.put(0x31L | 1L << bit), BAD_VALUE);
        }
        for (int bit = 56; bit < 64; bit++) {
            due.is("the bit " + bit + " above six characters", x.put(0x313131313131L | 1L << bit), BAD_VALUE);
        }
        due.is("count(10)", x.count(10), 0);
        due.is("six characters", x.put(0x313131313131L), 6);
    }

    private static void putTooMany(Due due) {
        String signs = "12345678";
        for (int room = 0; room <= 8; room++) {
            for (int more = 1; more <= 8; more++) {
                StrawDraws x = padWith("+".repeat(60 - room));
                due.is(more + " characters for " + room + " places", x.put(Due.packed(signs.substring(0, more))),
                        more <= room ? 60 - room + more : TOO_MANY);
                due.is("count(10)", x.count(10), more <= room ? 60 - room + more : 60 - room);
            }
        }
    }

    private static void wipe(Due due) {
        StrawDraws x = new StrawDraws();
        due.is("wipe(), empty", x.wipe(), 0);
        x.put('+');
        due.is("wipe(), one", x.wipe(), 1);
        due.is("wipe(), empty again", x.wipe(), 0);
        Due.putText(x, "+1;".repeat(20));
        due.is("wipe(), full", x.wipe(), 60);
        due.is("count(10)", x.count(10), 0);
        due.is("fault()", x.fault(), 0);
        due.is("carryOut()", x.carryOut(), BAD_TEXT);
        due.is("put, there is room again", Due.putText(x, "+2;".repeat(20)), 60);
        due.is("count(11), no change", x.count(11), 0);
    }

    private static void fault(Due due) {
        StrawDraws x = new StrawDraws();
        due.is("fault(), empty", x.fault(), 0);
        String text = "+1;w0=1;p5@-;d1";
        int[] faults = {1, NONE, 3, 4, 5, 6, NONE, 8, 9, 10, 11, NONE, 13, 14, NONE};
        for (int i = 0; i < text.length(); i++) {
            x.put(text.charAt(i));
            due.is("fault() of " + text.substring(0, i + 1), x.fault(), faults[i]);
        }
        x.put('-');
        due.is("fault(), a sign that cannot stand there", x.fault(), 15);
        Due.putText(x, ";+1;;;");
        due.is("fault(), the first one of several", x.fault(), 15);
        StrawDraws full = padWith("+1;".repeat(20));
        due.is("fault(), full", full.fault(), 60);
        due.is("fault(), the first one of a full pad", padWith("!".repeat(60)).fault(), 0);
        due.is("fault(), the last one of a full pad", padWith("+1;".repeat(19) + "+1!").fault(), 59);
    }

    private static void faultNone(Due due) {
        due.is("fault() of the shortest", padWith("+0").fault(), NONE);
        due.is("fault() of the longest", padWith("p9999@9999;".repeat(5) + "d9999").fault(), NONE);
        due.is("fault() of the most orders", padWith("u0;".repeat(19) + "u12").fault(), NONE);
        due.is("fault() of an order that cannot be carried out", padWith("w9999=17;+1;+1").fault(), NONE);
    }

    private static void carryUpToAnError(Due due) {
        StrawDraws x = padWith("+5;+6;+5;+7");
        due.is("carryOut(), the third one fails", x.carryOut(), 2);
        due.is("count(1), what is behind it is left", x.count(1), 2);
        Due.putText(x, "w2=1;+8");
        due.is("carryOut(), the first one fails", x.carryOut(), 0);
        due.is("count(1)", x.count(1), 2);
        Due.putText(x, "+8;d0;-8;-8");
        due.is("carryOut(), the last one fails", x.carryOut(), 3);
        due.is("count(1)", x.count(1), 2);
        due.is("ofServer(0, 2)", x.ofServer(0, 2), 1);
        // Moves that are none are no error, nor is an answer of 0.
        Due.putText(x, "-5;-6;w0=1;w0=0;p9@-");
        due.is("carryOut(), with answers of 0", x.carryOut(), 4);
        due.is("count(1), all dropped", x.count(1), 0);
    }

    private static void carryEachError(Due due) {
        String[] wrong = {"+5", "-6", "w2=1", "w9999=1", "w0=17", "w0=9999", "d2", "d1", "u2", "u0", "p6@0", "p6@-",
            "p5@2", "p5@12", "p5@9999"};
        for (String order : wrong) {
            StrawDraws x = Houses.apart(1, 1);
            x.store(5);
            x.down(1, true);
            Due.putText(x, "+9;" + order + ";-9");
            due.is("carryOut() of +9;" + order + ";-9", x.carryOut(), 1);
            due.is("count(1), -9 is left", x.count(1), 2);
        }
        String[] right = {"+0", "+9999", "-5", "w0=0", "w1=16", "d0", "u1", "p5@0", "p5@1", "p5@-"};
        for (String order : right) {
            StrawDraws x = Houses.apart(1, 1);
            x.store(5);
            x.down(1, true);
            Due.putText(x, "+9;" + order + ";-9");
            due.is("carryOut() of +9;" + order + ";-9", x.carryOut(), 3);
        }
        StrawDraws full = Houses.full();
        Due.putText(full, "+40");
        due.is("carryOut(), a 41st object", full.carryOut(), 0);
        Due.putText(full, "-0;+40;+41");
        due.is("carryOut(), room for one", full.carryOut(), 2);
        due.is("count(1)", full.count(1), 40);
    }

    private static void carryEmpties(Due due) {
        StrawDraws x = padWith("+5;+6");
        x.carryOut();
        due.is("count(10), all carried out", x.count(10), 0);
        Due.putText(x, "+7;+5;+8");
        x.carryOut();
        due.is("count(10), one carried out", x.count(10), 0);
        Due.putText(x, "+5");
        x.carryOut();
        due.is("count(10), none carried out", x.count(10), 0);
        due.is("fault()", x.fault(), 0);
        due.is("carryOut(), empty", x.carryOut(), BAD_TEXT);
        due.is("put, there is room again", Due.putText(x, "+1;".repeat(20)), 60);
    }

    private static void carryIsOneChange(Due due) {
        StrawDraws x = padWith("+5;+6;+7;d0;w1=9");
        due.is("count(11)", x.count(11), 2);
        x.carryOut();
        due.is("count(11), five orders", x.count(11), 3);
        Due.putText(x, "+5;+8");
        due.is("carryOut()", x.carryOut(), 0);
        due.is("count(11), none carried out", x.count(11), 4);
        due.is("undo(), none carried out", x.undo(), 3);
        due.is("count(1)", x.count(1), 3);
        due.is("undo(), five orders", x.undo(), 2);
        due.is("count(1), undone", x.count(1), 0);
        due.is("ofServer(0, 2), undone", x.ofServer(0, 2), 0);
        due.is("ofServer(1, 1), undone", x.ofServer(1, 1), 1);
        due.is("count(10), the pad stays empty", x.count(10), 0);
        StrawDraws y = new StrawDraws();
        Due.putText(y, "+1;-1;".repeat(9) + "+1;-1");
        due.is("carryOut(), 20 orders", y.carryOut(), 20);
        due.is("count(11), 20 orders", y.count(11), 1);
    }

    private static void carryNumber(Due due) {
        due.is("one order", padWith("+5").carryOut(), 1);
        due.is("none of one", padWith("-5").carryOut(), 0);
        due.is("the most orders", padWith("+1;-1;".repeat(9) + "+1;-1").carryOut(), 20);
        due.is("none of the most", padWith("-1;+1;".repeat(10).substring(0, 59)).carryOut(), 0);
        due.is("all but the last of the most", padWith("+1;-1;".repeat(9) + "+1;+1").carryOut(), 19);
        due.is("the longest", padWith("+9999;p9999@-;p9999@1;w0=16;-9999;+9998;-9998;+9997;-9997").carryOut(), 9);
        due.is("the fewest of a full pad", padWith("+9999;+9998;+9997;+9996;+9995;+9994;+9993;+9992;+9991;+99901")
                .carryOut(), BAD_TEXT);
        due.is("a full pad", padWith("+9999;+9998;+9997;+9996;+9995;+9994;+9993;+9992;+9991;w1=16")
                .carryOut(), 10);
    }

    private static void carryBadText(Due due) {
        StrawDraws x = Houses.apart(1, 1);
        due.is("carryOut(), empty", x.carryOut(), BAD_TEXT);
        due.is("count(11)", x.count(11), 2);
        String[] faulty = {"+", "+5;", "+5;x", "+5;+06", "+5;+10000", ";+5", "w0", "w0=", "p5@"};
        for (String text : faulty) {
            StrawDraws y = padWith(text);
            int fault = y.fault();
            due.is("carryOut() of " + text, y.carryOut(), BAD_TEXT);
            due.is("count(10), it stays", y.count(10), text.length());
            due.is("fault(), it stays", y.fault(), fault);
            due.is("count(1), nothing is carried out", y.count(1), 0);
            due.is("count(11), no change", y.count(11), 2);
        }
        StrawDraws z = padWith("+5;");
        z.carryOut();
        Due.putText(z, "+6");
        due.is("carryOut(), what stayed is made whole", z.carryOut(), 2);
    }

    private static void carryMoves(Due due) {
        StrawDraws x = Houses.apart(1, 1);
        x.store(5);
        // The orders find their moves one by one, and the latest one that matters counts.
        Due.putText(x, "d0;d1");
        due.is("carryOut()", x.carryOut(), 2);
        due.moves(x, Due.row(5, 1, NONE));
        Due.putText(x, "u0;+6;w1=0");
        due.is("carryOut()", x.carryOut(), 3);
        due.moves(x);
        Due.putText(x, "d0;-6;+6;d0");
        due.is("carryOut(), stopped by an error", x.carryOut(), 3);
        due.moves(x, Due.row(5, 0, NONE), Due.row(6, 0, NONE));
        Due.putText(x, "+7;-7");
        due.is("carryOut(), no order that matters", x.carryOut(), 2);
        due.moves(x, Due.row(5, 0, NONE), Due.row(6, 0, NONE));
        Due.putText(x, "d0;u0");
        due.is("carryOut(), none", x.carryOut(), 0);
        due.moves(x, Due.row(5, 0, NONE), Due.row(6, 0, NONE));
        due.is("set(COPIES, 3)", x.set(COPIES, 3), 0);
        due.moves(x);
        due.is("move(0, 0)", x.move(0, 0), NO_SUCH);
        due.is("store(5)", x.store(5), NOT_POSSIBLE);
    }
}
