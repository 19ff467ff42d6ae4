/** Promises 1 to 8: a new object, the text, its faults, the town and what can be seen of it. */
public final class TownTest {
    private static final Due DUE = new Due("TownTest");

    public static void main(String[] args) {
        newObject();
        writeAndWipe();
        faultsOfLetters();
        faultsOfCounts();
        townMadeAnew();
        noTown();
        rumourTableCoins();
        DUE.end();
    }

    private static void newObject() {
        DawnCoin c = new DawnCoin();
        for (int what = 0; what <= 8; what++) {
            DUE.is("new: count(" + what + ")", c.count(what), 0);
        }
        DUE.is("new: fault", c.fault(), 0);
        DUE.is("new: town", c.town(), DawnCoin.STATE);
        DUE.is("new: rumour", c.rumour(0, 0), DawnCoin.UNKNOWN);
        DUE.is("new: table", c.table(0), DawnCoin.UNKNOWN);
        DUE.is("new: undo", c.undo(), DawnCoin.STATE);
        DUE.is("new: again", c.again(0), DawnCoin.STATE);
        DUE.is("new: seed", c.seed(0), 0);
    }

    private static void writeAndWipe() {
        DawnCoin c = new DawnCoin();
        DUE.is("write -1", c.write(-1), DawnCoin.OUTSIDE);
        DUE.is("write 256", c.write(256), DawnCoin.OUTSIDE);
        DUE.is("write far off", c.write(Integer.MIN_VALUE), DawnCoin.OUTSIDE);
        DUE.is("write 0", c.write(0), 1);
        DUE.is("write 255", c.write(255), 2);
        for (int i = 3; i <= 48; i++) {
            DUE.is("write " + i, c.write('Y'), i);
        }
        DUE.is("write the 49th", c.write('Y'), DawnCoin.FULL);
        DUE.is("write the 49th, outside first", c.write(256), DawnCoin.OUTSIDE);
        DUE.is("count of letters", c.count(0), 48);
        DUE.is("wipe", c.wipe(), 48);
        DUE.is("wipe again", c.wipe(), 0);
        DUE.is("write anew", c.write('Y'), 1);
        DUE.is("fault of what is written anew", c.fault(), DawnCoin.NONE);
    }

    private static void fault(String text, int due) {
        DUE.is("fault of '" + text + "'", Due.written(text).fault(), due);
        DUE.is("model's fault of '" + text + "'", Model.faultOf(text), due);
    }

    private static void faultsOfLetters() {
        fault("", 0);
        fault("Y", DawnCoin.NONE);
        fault("y", 0);
        fault("R", 0);
        fault("YY", 1);
        fault("YA", 1);
        fault("YR", 2);
        fault("YR1", 3);
        fault("YR10", 4);
        fault("YR100", DawnCoin.NONE);
        fault("YR919", DawnCoin.NONE);
        fault("YR0", 2);
        fault("YR:", 2);
        fault("YR1/", 3);
        fault("YR12", 3);
        fault("YR10:", 4);
        fault("YR10R", 4);
        fault("YP", 2);
        fault("YP5", DawnCoin.NONE);
        fault("YP6", 2);
        fault("YP/", 2);
        fault("YPP", 2);
        fault("YS", 1);
        fault("YX", 1);
        fault("YR100S", 6);
        fault("YR100S0", 7);
        fault("YR100S05", DawnCoin.NONE);
        fault("YR100S06", 7);
        fault("YR100S1", 6);
        fault("YR100S05S05", 10);
        fault("YR100X", 5);
        fault("YR100" + (char) 0, 5);
        fault("YR100" + (char) 255, 5);
        fault("YR100S" + (char) 255, 6);
    }

    private static void faultsOfCounts() {
        String two = "YR100R100", three = two + "R100", five = three + "R100R100";
        fault(two + "X", 10);
        fault(two + "X0", 11);
        fault(two + "X01", DawnCoin.NONE);
        fault(two + "X02", 11);
        fault(two + "X1", 10);
        fault(two + "X00", 11);
        fault(two + "X01X", 12);
        fault(three + "X12X1", 17);
        fault(three + "X12X02X0", 21);
        fault(three + "X12X02X02", 21);
        fault(three + "X12X02X01", DawnCoin.NONE);
        fault(three + "X12X02X01X", 22);
        fault(three + "X10", 15);
        fault(three + "X2", 14);
        fault("YR100X01R100", 5);
        fault(five, DawnCoin.NONE);
        fault(five + "R", 21);
        fault(five + "X34", DawnCoin.NONE);
        fault(five + "S45", DawnCoin.NONE);
        fault(five + "S5", 22);
        fault("YP0P0P0P0", DawnCoin.NONE);
        fault("YP0P0P0P0P", 9);
        fault("YR100S00S01S02S03S04S05S", 23);
        fault("YR100R100S00S01S02S03S04S05S", 28);
        fault("YR100R100S00S01S02S03S04S05S0", 28);
        // 48 letters, the last part not at its end: the length of a text sets no bound here.
        fault(five + "S00S01S02S03S04S05S10S11S1", 47);
        fault(five + "S00S01S02S03S04S05S10S11P0P", 48);
    }

    private static void townMadeAnew() {
        DawnCoin c = Due.written("YR413R600P0P3S00S13");
        DUE.is("town", c.town(), 22);
        DUE.is("the text stays", c.count(0), 19);
        c.dawn();
        c.deny(0, 5);
        c.keep(0);
        c.hear(1, 2, 3, true);
        c.seed(77);
        DUE.is("town anew", c.town(), 22);
        DUE.is("day", c.count(3), 0);
        DUE.is("coins", c.count(4), 0);
        DUE.is("acts", c.count(7), 0);
        DUE.is("undo", c.undo(), DawnCoin.STATE);
        DUE.is("said", c.rumour(0, 3), 1);
        DUE.is("denied", c.rumour(0, 4), 0);
        DUE.is("what was kept is gone", c.again(0), DawnCoin.STATE);
        DUE.is("heard stays", c.count(8), 1);
        DUE.is("the seed stays", c.seed(0), 77);
        Due.write(c, "Y");
        DUE.is("an empty town", c.town(), 0);
        DUE.is("no rumour any more", c.rumour(0, 0), DawnCoin.UNKNOWN);
        DUE.is("nobody any more", c.table(0), DawnCoin.UNKNOWN);
        DUE.is("nothing said", c.count(6), 0);
        Due.write(c, "YP5R111");
        DUE.is("people and rumours in any order", c.town(), 11);
        DUE.is("what was said earlier is gone", c.rumour(0, 3), 0);
    }

    private static void noTown() {
        DawnCoin c = Due.town("YR413R600X01P0S00");
        c.dawn();
        c.keep(1);
        Due.write(c, "YR9");
        DUE.is("no town", c.town(), DawnCoin.STATE);
        DUE.is("rumours as they were", c.count(1), 2);
        DUE.is("word as it was", c.rumour(0, 0), 4);
        DUE.is("day as it was", c.count(3), 1);
        DUE.is("coins as they were", c.coins(0, 0), 1);
        DUE.is("acts as they were", c.count(7), 1);
        DUE.is("kept as it was", c.again(1), 1);
        Due.write(c, "YR100R100X01R100X02S05P3P9");
        DUE.is("fault", c.fault(), 25);
        DUE.is("a fault does not make a town", c.count(1), 2);
        DUE.is("pairs as they were", c.rumour(0, 5), 2);
        DUE.is("table as it was", c.table(0), 0);
    }

    private static void rumourTableCoins() {
        DawnCoin c = Due.town("YR912R301R200X02X12P5P2S00S05S11");
        int[][] due = {{9, 1, 2, 33, 0, 4, 0}, {3, 0, 1, 2, 0, 4, 0}, {2, 0, 0, 0, 0, 3, 0}};
        for (int r = 0; r < 3; r++) {
            for (int what = 0; what < 7; what++) {
                DUE.is("rumour(" + r + ", " + what + ")", c.rumour(r, what), due[r][what]);
            }
        }
        DUE.is("rumour what 7", c.rumour(0, 7), DawnCoin.OUTSIDE);
        DUE.is("rumour what -1", c.rumour(0, -1), DawnCoin.OUTSIDE);
        DUE.is("rumour 3", c.rumour(3, 7), DawnCoin.UNKNOWN);
        DUE.is("rumour -1", c.rumour(-1, 0), DawnCoin.UNKNOWN);
        DUE.is("table 0", c.table(0), 5);
        DUE.is("table 1", c.table(1), 2);
        DUE.is("table 2", c.table(2), DawnCoin.UNKNOWN);
        DUE.is("table -1", c.table(-1), DawnCoin.UNKNOWN);
        c.deny(2, 4);
        DUE.is("denied", c.rumour(2, 4), 16);
        c.dawn();
        DUE.is("the true one is proved", c.rumour(1, 6), 1);
        DUE.is("the lie is not yet", c.rumour(0, 6), 0);
        DUE.is("the one never proved", c.rumour(2, 6), 0);
        DUE.is("coins", c.coins(0, 0), 1);
        DUE.is("no coins", c.coins(1, 0), 0);
        DUE.is("coins of nobody", c.coins(2, 0), DawnCoin.UNKNOWN);
        DUE.is("coins of no rumour", c.coins(0, 3), DawnCoin.UNKNOWN);
        DUE.is("coins -1", c.coins(-1, 0), DawnCoin.UNKNOWN);
        DUE.is("coins of rumour -1", c.coins(1, -1), DawnCoin.UNKNOWN);
        c.dawn();
        DUE.is("the lie is proved", c.rumour(0, 6), 1);
        DUE.is("and said nowhere", c.rumour(0, 3), 0);
        DUE.is("the true one is said on", c.rumour(1, 3), 15);
    }
}
