/** Counts and prints the answers that are not as due. */
final class Due {
    private final String name;
    private int asked;
    private int wrong;

    Due(String name) {
        this.name = name;
    }

    void is(String what, long got, long want) {
        asked++;
        if (got != want) {
            wrong++;
            System.out.println(name + ": " + what + " answered " + got + ", due is " + want);
        }
    }

    void holds(String what, boolean so) {
        is(what, so ? 1 : 0, 1);
    }

    int wrong() {
        return wrong;
    }

    /** Ends the program with 1 if an answer was wrong, or if nothing was asked. */
    void end() {
        System.out.println(name + ": " + asked + " answers looked at, " + wrong + " wrong");
        if (wrong != 0 || asked == 0) {
            System.exit(1);
        }
    }

    static DawnCoin written(String text) {
        DawnCoin coin = new DawnCoin();
        write(coin, text);
        return coin;
    }

    static void write(DawnCoin coin, String text) {
        coin.wipe();
        for (int i = 0; i < text.length(); i++) {
            coin.write(text.charAt(i));
        }
    }

    static DawnCoin town(String text) {
        DawnCoin coin = written(text);
        if (coin.town() < 0) {
            throw new IllegalStateException("no town: " + text);
        }
        return coin;
    }

    static void dawns(DawnCoin coin, int n) {
        for (int i = 0; i < n; i++) {
            coin.dawn();
        }
    }
}
