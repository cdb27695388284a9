/** Counts answers that are not the ones that are due. */
final class Due {
    private final String about;
    private int asked = 0;
    private int wrong = 0;

    Due(String about) {
        this.about = about;
    }

    void is(String call, long got, long want) {
        asked++;
        if (got != want) {
            wrong++;
            System.out.println(about + ": " + call + " answered " + got + ", due is " + want);
        }
    }

    /** Ends the program with exit code 1 if an answer was wrong. */
    static void end(Due... parts) {
        int asked = 0;
        int wrong = 0;
        for (Due part : parts) {
            asked += part.asked;
            wrong += part.wrong;
        }
        System.out.println(asked + " answers, " + wrong + " of them wrong");
        if (wrong != 0 || asked == 0) {
            System.exit(1);
        }
    }

    /** The number that put() takes for a text of 1 to 8 characters. */
    static long packed(String text) {
        long number = 0;
        for (int i = 0; i < text.length(); i++) {
            number = number << 8 | text.charAt(i);
        }
        return number;
    }

    /** Puts a text of any length on the pad, and returns the last answer. */
    static int putText(StrawDraws draws, String text) {
        int answer = 0;
        for (int from = 0; from < text.length(); from += 8) {
            answer = draws.put(packed(text.substring(from, Math.min(text.length(), from + 8))));
        }
        return answer;
    }
}
