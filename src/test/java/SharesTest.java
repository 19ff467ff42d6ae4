/** Promises 24 to 28: shares, rests, chances, the seed and weeks. */
public final class SharesTest {
    private static final Due DUE = new Due("SharesTest");

    public static void main(String[] args) {
        shares();
        sharesRefused();
        rests();
        restsRefused();
        chances();
        chancesOfProved();
        seedAndWeeks();
        DUE.end();
    }

    private static void share(DawnCoin c, int table, int n, int above, int below) {
        DUE.is("share of " + table + " in " + n + " above", c.share(table, 0, n, true), above);
        DUE.is("share of " + table + " in " + n + " below", c.share(table, 0, n, false), below);
    }

    private static void shares() {
        DawnCoin c = Due.town("YR500S00S01");
        share(c, 0, 0, 1, 1);
        share(c, 0, 1, 1, 1);
        share(c, 1, 1, 2, 1);
        share(c, 0, 2, 3, 2);
        share(c, 1, 2, 5, 2);
        share(c, 2, 2, 0, 1);
        DawnCoin far = Due.town("YR500S00S05");
        share(far, 0, 2, 3, 1);
        share(far, 5, 3, 3, 1);
        DawnCoin low = Due.town("YR100S00S05");
        low.deny(0, 1);
        low.deny(0, 2);
        share(low, 0, 0, 1, 2);
        DawnCoin three = Due.town("YR500S00S02S04");
        share(three, 0, 1, 3, 2);
        share(three, 2, 1, 2, 1);
        share(three, 4, 1, 5, 2);
        DawnCoin proved = Due.town("YR502S00");
        share(proved, 0, 1, 2, 1);
        share(proved, 0, 2, 0, 1);
        Due.dawns(proved, 2);
        share(proved, 0, 0, 0, 1);
        DawnCoin all = Due.town("YR500S00S01S02S03S04S05");
        share(all, 0, 0, 1, 1);
        share(all, 3, 8, 1, 1);
    }

    private static void sharesRefused() {
        DawnCoin c = Due.town("YR500S00");
        for (int i = 0; i < 2; i++) {
            boolean upper = i == 0;
            DUE.is("share of none", c.share(6, 1, 9, upper), DawnCoin.UNKNOWN);
            DUE.is("share of rumour -1", c.share(0, -1, 0, upper), DawnCoin.UNKNOWN);
            DUE.is("share of table 6", c.share(6, 0, 0, upper), DawnCoin.OUTSIDE);
            DUE.is("share of table -1", c.share(-1, 0, 0, upper), DawnCoin.OUTSIDE);
            DUE.is("share in 9", c.share(0, 0, 9, upper), DawnCoin.OUTSIDE);
            DUE.is("share in -1", c.share(0, 0, -1, upper), DawnCoin.OUTSIDE);
        }
    }

    private static void rests(String text, int n, int pairs, int first) {
        DawnCoin c = Due.town(text);
        DUE.is("rests of " + text + " in " + n, c.rests(0, 1, n, 0), pairs);
        DUE.is("the first of " + text + " in " + n, c.rests(0, 1, n, 1), first);
    }

    private static void rests() {
        rests("YR500R300P0P0", 1, 2, 12);
        rests("YR500P0P0", 1, 3, 1);
        rests("YR500P0P0", 0, 4, 0);
        rests("YP0P0", 3, 1, 0);
        rests("YR500P0P5", 1, 1, 11);
        rests("YR511P0P5", 1, 4, 0);
        rests("YR500P0P5S00", 1, 1, 1);
        DawnCoin c = Due.town("YR501R500P0P5");
        c.dawn();
        c.deny(1, 0);
        DUE.is("neither a proved one nor a denied one can be said", c.rests(0, 1, 1, 1), 2);
        DUE.is("as many as there are", c.rests(0, 1, 1, 0), 1);
        DUE.is("the other way round", c.rests(1, 0, 1, 1), 20);
    }

    private static void restsRefused() {
        DawnCoin c = Due.town("YR500P0P0");
        DUE.is("rests of nobody", c.rests(2, 2, 9, 2), DawnCoin.UNKNOWN);
        DUE.is("rests with nobody", c.rests(0, -1, 0, 0), DawnCoin.UNKNOWN);
        DUE.is("rests of one", c.rests(1, 1, 0, 0), DawnCoin.OUTSIDE);
        DUE.is("rests in 9", c.rests(0, 1, 9, 0), DawnCoin.OUTSIDE);
        DUE.is("rests in -1", c.rests(0, 1, -1, 0), DawnCoin.OUTSIDE);
        DUE.is("rests what 2", c.rests(0, 1, 0, 2), DawnCoin.OUTSIDE);
        DUE.is("rests what -1", c.rests(0, 1, 0, -1), DawnCoin.OUTSIDE);
    }

    private static void chance(DawnCoin c, int w, int x, int above, int below) {
        DUE.is("chance of " + w + " by " + x + " above", c.chance(0, w, x, true), above);
        DUE.is("chance of " + w + " by " + x + " below", c.chance(0, w, x, false), below);
    }

    private static void chances() {
        DawnCoin c = Due.town("YR500S00");
        chance(c, 7, 3, 7, 10);
        chance(c, 5, 3, 7, 10);
        chance(c, 4, 3, 1, 1);
        chance(c, 8, 3, 0, 1);
        chance(c, 7, 5, 1, 2);
        chance(c, 7, 0, 1, 1);
        chance(c, 7, 10, 0, 1);
        chance(c, 20, 5, 0, 1);
        DawnCoin two = Due.town("YR500S00S05");
        chance(two, 6, 5, 3, 4);
        chance(two, 7, 5, 1, 4);
        chance(two, 9, 1, 81, 100);
        chance(two, 3, 7, 1, 1);
        chance(two, 4, 7, 51, 100);
        DawnCoin none = Due.town("YR500");
        chance(none, 5, 5, 1, 1);
        chance(none, 6, 5, 0, 1);
        for (int i = 0; i < 2; i++) {
            boolean upper = i == 0;
            DUE.is("chance of none", c.chance(1, 21, 11, upper), DawnCoin.UNKNOWN);
            DUE.is("chance of rumour -1", c.chance(-1, 0, 0, upper), DawnCoin.UNKNOWN);
            DUE.is("chance of 21", c.chance(0, 21, 0, upper), DawnCoin.OUTSIDE);
            DUE.is("chance of -1", c.chance(0, -1, 0, upper), DawnCoin.OUTSIDE);
            DUE.is("chance by 11", c.chance(0, 0, 11, upper), DawnCoin.OUTSIDE);
            DUE.is("chance by -1", c.chance(0, 0, -1, upper), DawnCoin.OUTSIDE);
        }
    }

    private static void chancesOfProved() {
        DawnCoin c = Due.town("YR501S00");
        chance(c, 10, 10, 1, 1);
        chance(c, 11, 0, 0, 1);
        c.dawn();
        chance(c, 10, 10, 1, 1);
        DawnCoin lie = Due.town("YR511S00");
        chance(lie, 0, 5, 1, 1);
        chance(lie, 1, 0, 0, 1);
    }

    private static void seedAndWeeks() {
        DawnCoin c = Due.town("YR500P0P5");
        DUE.is("seed", c.seed(-5), 0);
        DUE.is("seed as it was", c.seed(2), -5);
        DUE.is("weeks 0", c.weeks(0), DawnCoin.OUTSIDE);
        DUE.is("weeks 21", c.weeks(21), DawnCoin.OUTSIDE);
        DUE.is("the seed stays, if they are refused", c.seed(2), 2);
        c.weeks(1);
        DUE.is("the seed goes on", c.seed(0), -4275776585127002199L);
        c.weeks(20);
        long behindTwenty = c.seed(0);
        for (int i = 0; i < 20; i++) {
            c.weeks(1);
        }
        DUE.is("twenty times one", c.seed(0), behindTwenty);
        firstSaying();
    }

    /** All that can be said in one week is tried: the first number of a seed tells what it is. */
    private static void firstSaying() {
        DawnCoin c = Due.town("YR500R400R300R200R100P0P1P2P3");
        for (long v = 0; v < 200; v++) {
            long x = v * 6364136223846793005L + 1442695040888963407L;
            int left = (int) (x >>> 33) % 60;
            int rumour = left / 10, table = left % 10;
            int there = rumour < 5 && table < 4 ? 1 : 0;
            int around = table == 0 ? 2 : 3;
            c.seed(v);
            DUE.is("a week by " + v, c.weeks(1), there * (5 - rumour + around));
        }
    }
}
