/** Straws as the document draws them, on numbers that never wrap around. */
final class Drawn {
    private Drawn() {
    }

    static long straw(long object, long salt, long server, long straw) {
        long x = stir(1000 * object + salt);
        x = stir(x + 7919 * (server + 1));
        return stir(x + 104729 * (straw + 1));
    }

    static long longest(long object, long salt, long server, int weight) {
        long longest = -1;
        for (int straw = 0; straw < weight; straw++) {
            longest = Math.max(longest, straw(object, salt, server, straw));
        }
        return longest;
    }

    private static long stir(long x) {
        return Math.addExact(Math.multiplyExact(x, 1103515245L), 12345) % 2147483648L;
    }
}
