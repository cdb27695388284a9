/** Counts answers that are not the ones that are due. */
final class Due {
    private final String about;
    private int asked = 0;
    private int wrong = 0;

    Due(String about) {
        this.about = about;
    }

    void is(String call, long got, long want) {
        asked++;
        if (got != want) {
            wrong++;
            System.out.println(about + ": " + call + " answered " + got + ", due is " + want);
        }
    }

    int asked() {
        return asked;
    }

    /** One answer for several arguments, such as those beyond a range. */
    void are(String call, Asked asked, int want, int... arguments) {
        for (int argument : arguments) {
            is(call + " with " + argument, asked.with(argument), want);
        }
    }

    interface Asked {
        int with(int argument);
    }

    /** The moves of the latest change, each one as its object and its two servers, and none behind them. */
    void moves(StrawDraws x, int[]... wanted) {
        is("count(4)", x.count(4), wanted.length);
        for (int m = 0; m < wanted.length; m++) {
            for (int what = 0; what < 3; what++) {
                is("move(" + m + ", " + what + ")", x.move(m, what), wanted[m][what]);
            }
        }
        is("move(" + wanted.length + ", 0)", x.move(wanted.length, 0), StrawDraws.NO_SUCH);
    }

    /** The places of an object, and none behind them. */
    void places(StrawDraws x, int object, int... wanted) {
        for (int copy = 0; copy < wanted.length; copy++) {
            is("place(" + object + ", " + copy + ")", x.place(object, copy), wanted[copy]);
        }
        is("place(" + object + ", " + wanted.length + ")", x.place(object, wanted.length), StrawDraws.NONE);
    }

    static int[] row(int... numbers) {
        return numbers;
    }

    /** Ends the program with exit code 1 if an answer was wrong. */
    static void end(Due... parts) {
        int asked = 0;
        int wrong = 0;
        for (Due part : parts) {
            asked += part.asked;
            wrong += part.wrong;
        }
        System.out.println(asked + " answers, " + wrong + " of them wrong");
        if (wrong != 0 || asked == 0) {
            System.exit(1);
        }
    }

    /** The number that put() takes for a text of 1 to 8 characters. */
    static long packed(String text) {
        long number = 0;
        for (int i = 0; i < text.length(); i++) {
            number = number << 8 | text.charAt(i);
        }
        return number;
    }

    /** Puts a text of any length on the pad, and returns the last answer. */
    static int putText(StrawDraws draws, String text) {
        int answer = 0;
        for (int from = 0; from < text.length(); from += 8) {
            answer = draws.put(packed(text.substring(from, Math.min(text.length(), from + 8))));
        }
        return answer;
    }
}
