/** Promises 9 to 13: dawns, said, denied, paid, undone. */
public final class ActsTest {
    private static final Due DUE = new Due("ActsTest");

    public static void main(String[] args) {
        dawns();
        fullPurse();
        said();
        denied();
        paid();
        paidToAFullPurse();
        undone();
        rowOfFourteen();
        DUE.end();
    }

    private static void dawns() {
        DawnCoin c = Due.town("YR500R512P2P3P3S02S13");
        DUE.is("coins are struck where it is said, then it spreads", c.dawn(), 3);
        DUE.is("of the first", c.coins(0, 0), 1);
        DUE.is("not beside", c.coins(1, 0), 0);
        DUE.is("of the second", c.coins(2, 1), 1);
        DUE.is("said beside", c.rumour(0, 3), 14);
        c.deny(0, 4);
        DUE.is("second dawn", c.dawn(), 6);
        DUE.is("not where it is denied", c.rumour(0, 3), 15);
        DUE.is("a lie is said nowhere from its day on", c.rumour(1, 3), 0);
        DUE.is("third dawn", c.dawn(), 3);
        DUE.is("denied is a wall", c.rumour(0, 3), 15);
        DUE.is("day", c.count(3), 3);
        DUE.is("all coins", c.count(4), 12);
        DUE.is("a dawn without a town", new DawnCoin().dawn(), 0);
        DawnCoin edge = Due.town("YR500S00S05");
        edge.dawn();
        DUE.is("the row of tables has two ends", edge.rumour(0, 3), 51);
    }

    private static void fullPurse() {
        DawnCoin c = Due.town("YR200P0P1S00");
        Due.dawns(c, 98);
        DUE.is("the 99th", c.dawn(), 2);
        DUE.is("99 coins", c.coins(0, 0), 99);
        DUE.is("98 coins of the one beside", c.coins(1, 0), 98);
        DUE.is("only that one gets one", c.dawn(), 1);
        DUE.is("none is struck any more", c.dawn(), 0);
        DUE.is("99 it is", c.coins(0, 0), 99);
        DUE.is("99 in days to come", c.purse(0, 8), 99 * 8);
    }

    private static void said() {
        DawnCoin c = Due.town("YR501R512P0");
        DUE.is("say", c.say(0, 3), 1);
        DUE.is("say elsewhere", c.say(0, 0), 2);
        DUE.is("say again", c.say(0, 3), DawnCoin.STATE);
        DUE.is("said", c.rumour(0, 3), 9);
        c.deny(0, 1);
        DUE.is("say where it is denied", c.say(0, 1), DawnCoin.STATE);
        DUE.is("say no rumour", c.say(2, 6), DawnCoin.UNKNOWN);
        DUE.is("say rumour -1", c.say(-1, 0), DawnCoin.UNKNOWN);
        DUE.is("say at table 6", c.say(0, 6), DawnCoin.OUTSIDE);
        DUE.is("say at table -1", c.say(0, -1), DawnCoin.OUTSIDE);
        DUE.is("acts", c.count(7), 3);
        c.dawn();
        DUE.is("say a proved true one", c.say(0, 5), DawnCoin.STATE);
        DUE.is("say a lie ahead of its day", c.say(1, 5), 1);
        c.dawn();
        DUE.is("say a proved lie", c.say(1, 0), DawnCoin.STATE);
        DUE.is("what is refused is no act", c.count(7), 6);
    }

    private static void denied() {
        DawnCoin c = Due.town("YR501R511S00S01S10");
        DUE.is("deny", c.deny(0, 0), 1);
        DUE.is("denied", c.rumour(0, 4), 1);
        DUE.is("said", c.rumour(0, 3), 2);
        DUE.is("deny again", c.deny(0, 0), DawnCoin.STATE);
        DUE.is("deny where it is not said", c.deny(0, 5), 1);
        DUE.is("deny no rumour", c.deny(2, 6), DawnCoin.UNKNOWN);
        DUE.is("deny at table 6", c.deny(1, 6), DawnCoin.OUTSIDE);
        DUE.is("deny at table -1", c.deny(1, -1), DawnCoin.OUTSIDE);
        c.dawn();
        DUE.is("deny a proved true one", c.deny(0, 3), DawnCoin.STATE);
        DUE.is("deny a proved lie", c.deny(1, 3), 0);
        DUE.is("it is denied", c.rumour(1, 4), 8);
        DUE.is("acts", c.count(7), 4);
    }

    private static void paid() {
        DawnCoin c = Due.town("YR400R300R111X01P0P1P0S00S11S20");
        c.dawn();
        DUE.is("pay: a rival is held", c.pay(0, 1, 0), DawnCoin.STATE);
        DUE.is("pay: the other way round", c.pay(1, 0, 1), DawnCoin.STATE);
        DUE.is("pay: worth nothing", c.pay(0, 1, 2), DawnCoin.STATE);
        DUE.is("pay: none is had", c.pay(0, 2, 1), DawnCoin.STATE);
        DUE.is("pay", c.pay(0, 2, 0), 6);
        DUE.is("one less", c.coins(0, 0), 0);
        DUE.is("one more", c.coins(2, 0), 2);
        DUE.is("pay: it has none any more", c.pay(0, 2, 0), DawnCoin.STATE);
        DUE.is("pay: now no rival is held", c.pay(1, 0, 1), 6);
        DUE.is("pay: both are one", c.pay(1, 1, 0), DawnCoin.OUTSIDE);
        DUE.is("pay: nobody", c.pay(3, 3, 0), DawnCoin.UNKNOWN);
        DUE.is("pay: to nobody", c.pay(0, -1, 0), DawnCoin.UNKNOWN);
        DUE.is("pay: no rumour", c.pay(1, 1, 3), DawnCoin.UNKNOWN);
        DUE.is("acts", c.count(7), 3);
        DUE.is("undo", c.undo(), 2);
        DUE.is("the coin is back", c.coins(1, 1), 1);
        DUE.is("and gone there", c.coins(0, 1), 0);
        DawnCoin low = Due.town("YR100P0P1S00");
        low.dawn();
        low.deny(0, 0);
        low.deny(0, 5);
        DUE.is("worth 0 by denials", low.worth(0, 0), 0);
        DUE.is("is not taken", low.pay(0, 1, 0), DawnCoin.STATE);
        low.say(0, 2);
        DUE.is("worth 1 is taken", low.pay(0, 1, 0), 1);
    }

    private static void paidToAFullPurse() {
        DawnCoin c = Due.town("YR200P0P0S00");
        Due.dawns(c, 100);
        DUE.is("99 are not taken one more", c.pay(0, 1, 0), DawnCoin.STATE);
        DawnCoin d = Due.town("YR200P0P1S00");
        Due.dawns(d, 99);
        DUE.is("98 are", d.pay(0, 1, 0), 8);
        DUE.is("99 then", d.coins(1, 0), 99);
        DUE.is("and no more", d.pay(0, 1, 0), DawnCoin.STATE);
    }

    private static void undone() {
        DawnCoin c = Due.town("YR512P0S00");
        c.say(0, 4);
        c.deny(0, 0);
        c.dawn();
        c.dawn();
        DUE.is("undo the dawn that proved", c.undo(), 3);
        DUE.is("day", c.count(3), 1);
        DUE.is("said again", c.rumour(0, 3), 56);
        DUE.is("undo the dawn", c.undo(), 2);
        DUE.is("said", c.rumour(0, 3), 16);
        DUE.is("undo the denial", c.undo(), 1);
        DUE.is("said where it was", c.rumour(0, 3), 17);
        DUE.is("denied nowhere", c.rumour(0, 4), 0);
        DUE.is("undo what was said", c.undo(), 0);
        DUE.is("as at first", c.rumour(0, 3), 1);
        DUE.is("undo nothing", c.undo(), DawnCoin.STATE);
        c.dawn();
        DUE.is("acts go on", c.count(7), 1);
        DUE.is("a coin", c.coins(0, 0), 1);
        c.undo();
        DUE.is("no coin", c.coins(0, 0), 0);
    }

    private static void rowOfFourteen() {
        DawnCoin c = Due.town("YR500P0S00");
        Due.dawns(c, 33);
        DUE.is("fourteen acts", c.count(7), 14);
        for (int left = 13; left >= 0; left--) {
            DUE.is("undo", c.undo(), left);
            DUE.is("day", c.count(3), 19 + left);
        }
        DUE.is("the others are forgotten", c.undo(), DawnCoin.STATE);
        DUE.is("coins", c.coins(0, 0), 19);
    }
}
