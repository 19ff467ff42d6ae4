/** Promises 21 to 23: what is heard, and where it was said. */
public final class HeardTest {
    private static final Due DUE = new Due("HeardTest");

    public static void main(String[] args) {
        hear();
        where();
        fromNowOn();
        overTowns();
        DUE.end();
    }

    private static void hear() {
        DawnCoin c = Due.town("YR500");
        DUE.is("hear no rumour", c.hear(1, 6, 9, true), DawnCoin.UNKNOWN);
        DUE.is("hear rumour -1", c.hear(-1, 0, 0, true), DawnCoin.UNKNOWN);
        DUE.is("hear at table 6", c.hear(0, 6, 0, true), DawnCoin.OUTSIDE);
        DUE.is("hear at table -1", c.hear(0, -1, 0, true), DawnCoin.OUTSIDE);
        DUE.is("hear in 9", c.hear(0, 0, 9, true), DawnCoin.OUTSIDE);
        DUE.is("hear in -1", c.hear(0, 0, -1, true), DawnCoin.OUTSIDE);
        for (int i = 1; i <= 6; i++) {
            DUE.is("hear " + i, c.hear(0, 5, 8, true), i);
        }
        DUE.is("hear a seventh", c.hear(0, 5, 8, true), DawnCoin.FULL);
        DUE.is("hear outside first", c.hear(0, 6, 8, true), DawnCoin.OUTSIDE);
        DUE.is("count of heard", c.count(8), 6);
        DUE.is("unhear", c.unhear(), 6);
        DUE.is("unhear again", c.unhear(), 0);
        DUE.is("hear anew", c.hear(0, 0, 0, false), 1);
    }

    private static void ask(DawnCoin c, int sets, int inAll, int inNone) {
        DUE.is("how many sets", c.where(0, 0), sets);
        DUE.is("in all", c.where(0, 1), inAll);
        DUE.is("in none", c.where(0, 2), inNone);
    }

    private static void where() {
        DawnCoin c = Due.town("YR500R500S03");
        ask(c, 64, 0, 0);
        c.hear(0, 0, 0, true);
        ask(c, 32, 1, 0);
        c.hear(1, 0, 0, false);
        ask(c, 32, 1, 0);
        c.hear(0, 1, 0, false);
        ask(c, 16, 1, 2);
        c.deny(0, 5);
        ask(c, 8, 1, 34);
        c.hear(0, 0, 0, false);
        ask(c, 0, DawnCoin.NONE, DawnCoin.NONE);
        c.unhear();
        c.hear(0, 0, 1, false);
        ask(c, 8, 0, 35);
        c.hear(0, 4, 8, true);
        ask(c, 7, 0, 35);
        c.hear(0, 2, 0, false);
        c.hear(0, 3, 0, false);
        ask(c, 1, 16, 47);
        DUE.is("where of none", c.where(2, 3), DawnCoin.UNKNOWN);
        DUE.is("where of -1", c.where(-1, 0), DawnCoin.UNKNOWN);
        DUE.is("where what 3", c.where(0, 3), DawnCoin.OUTSIDE);
        DUE.is("where what -1", c.where(0, -1), DawnCoin.OUTSIDE);
    }

    private static void fromNowOn() {
        DawnCoin c = Due.town("YR512");
        c.hear(0, 0, 1, true);
        ask(c, 48, 0, 0);
        c.dawn();
        ask(c, 0, DawnCoin.NONE, DawnCoin.NONE);
        c.undo();
        ask(c, 48, 0, 0);
    }

    private static void overTowns() {
        DawnCoin c = Due.town("YR500R500");
        c.hear(0, 0, 0, true);
        c.hear(1, 2, 0, true);
        Due.write(c, "YR100");
        c.town();
        DUE.is("heard stays", c.count(8), 2);
        ask(c, 32, 1, 0);
        DUE.is("of no rumour any more", c.where(1, 0), DawnCoin.UNKNOWN);
        Due.write(c, "YR100R100");
        c.town();
        DUE.is("there is such one again", c.where(1, 1), 4);
    }
}
