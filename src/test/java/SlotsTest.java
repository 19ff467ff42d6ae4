/** Promises 29 to 31: slots, and counts. */
public final class SlotsTest {
    private static final Due DUE = new Due("SlotsTest");

    public static void main(String[] args) {
        keepAndAgain();
        refused();
        counts();
        DUE.end();
    }

    private static void keepAndAgain() {
        DawnCoin c = Due.town("YR512P0S00");
        DUE.is("keep", c.keep(0), 0);
        c.dawn();
        c.deny(0, 5);
        DUE.is("keep another", c.keep(1), 1);
        DUE.is("keeping is no act", c.count(7), 2);
        c.dawn();
        DUE.is("again", c.again(1), 1);
        DUE.is("day", c.count(3), 1);
        DUE.is("said", c.rumour(0, 3), 3);
        DUE.is("denied", c.rumour(0, 4), 32);
        DUE.is("coins", c.coins(0, 0), 1);
        DUE.is("no acts", c.count(7), 0);
        DUE.is("nothing to undo", c.undo(), DawnCoin.STATE);
        c.dawn();
        DUE.is("what is kept stays", c.again(1), 1);
        DUE.is("the first one", c.again(0), 0);
        DUE.is("said at first", c.rumour(0, 3), 1);
        DUE.is("denied at first", c.rumour(0, 4), 0);
        DUE.is("coins at first", c.count(4), 0);
        c.dawn();
        DUE.is("kept over", c.keep(0), 1);
        c.undo();
        DUE.is("undone", c.count(3), 0);
        DUE.is("kept over all the same", c.again(0), 1);
    }

    private static void refused() {
        DawnCoin c = Due.town("Y");
        DUE.is("keep 2", c.keep(2), DawnCoin.UNKNOWN);
        DUE.is("keep -1", c.keep(-1), DawnCoin.UNKNOWN);
        DUE.is("again 2", c.again(2), DawnCoin.UNKNOWN);
        DUE.is("again -1", c.again(-1), DawnCoin.UNKNOWN);
        DUE.is("again, none kept", c.again(1), DawnCoin.STATE);
        c.dawn();
        c.again(0);
        DUE.is("a refusal leaves the acts", c.count(7), 1);
        c.keep(1);
        DUE.is("the other one is not kept", c.again(0), DawnCoin.STATE);
        c.town();
        DUE.is("a town forgets", c.again(1), DawnCoin.STATE);
    }

    private static void counts() {
        DawnCoin c = Due.town("YR413R600R208P0P3S00S25");
        c.hear(0, 0, 0, true);
        c.dawn();
        c.say(1, 3);
        c.dawn();
        int[] due = {23, 3, 2, 2, 3, 2 * 7 + 1 * 9, 7, 3, 1};
        for (int what = 0; what <= 8; what++) {
            DUE.is("count(" + what + ")", c.count(what), due[what]);
        }
        c.dawn();
        DUE.is("the lie is said nowhere", c.count(6), 6);
        DUE.is("count(9)", c.count(9), DawnCoin.OUTSIDE);
        DUE.is("count(-1)", c.count(-1), DawnCoin.OUTSIDE);
    }
}
