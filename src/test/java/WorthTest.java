/** Promises 14 to 20: what will be, and nothing is changed by asking. */
public final class WorthTest {
    private static final Due DUE = new Due("WorthTest");

    public static void main(String[] args) {
        worth();
        purse();
        bestDay();
        reach();
        plan();
        holds();
        judge();
        nothingChanged();
        DUE.end();
    }

    private static void worth() {
        DawnCoin c = Due.town("YR500S02");
        int[] due = {6, 8, 10, 11, 11, 11, 11, 11, 11};
        for (int n = 0; n <= 8; n++) {
            DUE.is("worth in " + n, c.worth(0, n), due[n]);
        }
        c.deny(0, 4);
        int[] less = {5, 7, 8, 8};
        for (int n = 0; n < 4; n++) {
            DUE.is("worth of a denied one in " + n, c.worth(0, n), less[n]);
        }
        DUE.is("worth of none", c.worth(1, 9), DawnCoin.UNKNOWN);
        DUE.is("worth of -1", c.worth(-1, 0), DawnCoin.UNKNOWN);
        DUE.is("worth in 9", c.worth(0, 9), DawnCoin.OUTSIDE);
        DUE.is("worth in -1", c.worth(0, -1), DawnCoin.OUTSIDE);
        DawnCoin low = Due.town("YR100");
        low.deny(0, 0);
        DUE.is("worth 0", low.worth(0, 0), 0);
        low.deny(0, 1);
        DUE.is("worth 0 at least", low.worth(0, 0), 0);
        DawnCoin proved = Due.town("YR503R513S00S10");
        DUE.is("true, ahead of its day", proved.worth(0, 2), 8);
        DUE.is("true, on its day", proved.worth(0, 3), 10);
        DUE.is("true, later", proved.worth(0, 8), 10);
        DUE.is("lie, ahead of its day", proved.worth(1, 2), 8);
        DUE.is("lie, on its day", proved.worth(1, 3), 0);
        DUE.is("lie, later", proved.worth(1, 8), 0);
        Due.dawns(proved, 3);
        DUE.is("true, proved", proved.worth(0, 0), 10);
        DUE.is("lie, proved", proved.worth(1, 0), 0);
    }

    private static void purse() {
        DawnCoin c = Due.town("YR200P0P3S00");
        int[] due = {0, 4, 10, 18, 28, 40, 48, 56, 64};
        for (int n = 0; n <= 8; n++) {
            DUE.is("purse in " + n, c.purse(0, n), due[n]);
        }
        DUE.is("purse of one farther off", c.purse(1, 4), 7);
        DUE.is("purse of nobody", c.purse(2, 9), DawnCoin.UNKNOWN);
        DUE.is("purse of -1", c.purse(-1, 0), DawnCoin.UNKNOWN);
        DUE.is("purse in 9", c.purse(0, 9), DawnCoin.OUTSIDE);
        DUE.is("purse in -1", c.purse(0, -1), DawnCoin.OUTSIDE);
        Due.dawns(c, 2);
        DUE.is("purse now", c.purse(0, 0), 10);
    }

    private static void bestDay() {
        DawnCoin c = Due.town("YR513R500P0P5S00");
        DUE.is("ahead of the proof", c.bestDay(0), 2);
        DUE.is("of like ones the least", c.bestDay(1), 0);
        DUE.is("of nobody", c.bestDay(2), DawnCoin.UNKNOWN);
        DUE.is("of -1", c.bestDay(-1), DawnCoin.UNKNOWN);
        DUE.is("the last", Due.town("YR500P0S00").bestDay(0), 8);
        DawnCoin full = Due.town("YR500P0S00");
        Due.dawns(full, 120);
        DUE.is("a full purse, now", full.bestDay(0), 0);
    }

    private static void reach() {
        DawnCoin c = Due.town("YR500R512S02S10");
        DUE.is("where it is", c.reach(0, 2), 0);
        DUE.is("beside", c.reach(0, 1), 1);
        DUE.is("far", c.reach(0, 5), 3);
        DUE.is("a lie, in time", c.reach(1, 1), 1);
        DUE.is("a lie, too late", c.reach(1, 2), DawnCoin.NONE);
        c.deny(0, 3);
        DUE.is("behind a denial", c.reach(0, 4), DawnCoin.NONE);
        DUE.is("at a denial", c.reach(0, 3), DawnCoin.NONE);
        DUE.is("of none", c.reach(2, 6), DawnCoin.UNKNOWN);
        DUE.is("of -1", c.reach(-1, 0), DawnCoin.UNKNOWN);
        DUE.is("table 6", c.reach(0, 6), DawnCoin.OUTSIDE);
        DUE.is("table -1", c.reach(0, -1), DawnCoin.OUTSIDE);
        DUE.is("from end to end", Due.town("YR500S00").reach(0, 5), 5);
    }

    private static void plan() {
        DawnCoin c = Due.town("YR500P0");
        DUE.is("an empty purse now", c.plan(0, 0, false), 0);
        DUE.is("nothing is said for it", c.plan(0, 0, true), 1);
        DUE.is("how much in 1", c.plan(0, 1, false), 10);
        DUE.is("the first of like rows", c.plan(0, 1, true), 10003);
        DawnCoin one = Due.town("YR500R511P0S01S02S03S04S05");
        DUE.is("how much by one thing", one.plan(0, 1, false), 11);
        DUE.is("one thing, as a lie adds nothing", one.plan(0, 1, true), 100);
        DawnCoin two = Due.town("YR200R900P4");
        DUE.is("how much by two rumours", two.plan(0, 1, false), 5 + 12);
        DUE.is("two rumours", two.plan(0, 1, true), 10414);
        Due.dawns(two, 1);
        two.say(1, 4);
        two.dawn();
        DUE.is("a purse now: two tables more", two.plan(0, 0, false), 14);
        DUE.is("and the first such", two.plan(0, 0, true), 11011);
        two.deny(1, 0);
        DUE.is("but where it is denied", two.plan(0, 0, true), 11112);
        DawnCoin proved = Due.town("YR501P0");
        proved.dawn();
        DUE.is("a proved one can not be said", proved.plan(0, 8, true), 1);
        DUE.is("nobody", c.plan(1, 9, true), DawnCoin.UNKNOWN);
        DUE.is("-1", c.plan(-1, 0, false), DawnCoin.UNKNOWN);
        DUE.is("in 9", c.plan(0, 9, false), DawnCoin.OUTSIDE);
        DUE.is("in -1", c.plan(0, -1, true), DawnCoin.OUTSIDE);
    }

    private static void holds() {
        DawnCoin c = Due.town("YR400R100R100X01X02P0P5S00S10S20");
        c.dawn();
        DUE.is("how much", c.holds(0, false), 6);
        DUE.is("of like sets the fewest", c.holds(0, true), 1);
        DUE.is("an empty purse", c.holds(1, false), 0);
        DUE.is("an empty set", c.holds(1, true), 0);
        c.say(1, 4);
        DUE.is("two together are more", c.holds(0, false), 7);
        DUE.is("the two", c.holds(0, true), 6);
        DawnCoin like = Due.town("YR100R100X01P0S00S10");
        like.dawn();
        DUE.is("the least of like ones", like.holds(0, true), 1);
        DawnCoin lie = Due.town("YR111R100P0S00S10");
        lie.dawn();
        DUE.is("what is worth nothing is not held", lie.holds(0, true), 2);
        DUE.is("of nobody", c.holds(2, true), DawnCoin.UNKNOWN);
        DUE.is("of -1", c.holds(-1, false), DawnCoin.UNKNOWN);
    }

    private static void judge() {
        DawnCoin c = Due.town("YR500R100R512S00");
        DUE.is("said and a dawn", c.judge(2, 1200), DawnCoin.NONE);
        DUE.is("said twice", c.judge(2, 1001), 1);
        DUE.is("said where it is", c.judge(1, 0), 0);
        DUE.is("said of no rumour", c.judge(1, 30), 0);
        DUE.is("said at no table", c.judge(1, 6), 0);
        DUE.is("denied is worth less", c.judge(1, 105), 0);
        DUE.is("no such thing", c.judge(1, 399), 0);
        DUE.is("no such thing, last", c.judge(4, 299299299999L), 1);
        DUE.is("a dawn has any two figures", c.judge(1, 299), DawnCoin.NONE);
        DUE.is("a lie is proved", c.judge(4, 200299200200L), 1);
        DUE.is("at its place", c.judge(4, 1002003200L), DawnCoin.NONE);
        c.deny(1, 0);
        DUE.is("0 is not less than 0", c.judge(2, 111112), DawnCoin.NONE);
        DUE.is("denied twice", c.judge(2, 111111), 1);
        DUE.is("said where it was denied", c.judge(2, 111011), 1);
        DUE.is("n 0", c.judge(0, 0), DawnCoin.OUTSIDE);
        DUE.is("n 5", c.judge(5, 0), DawnCoin.OUTSIDE);
        DUE.is("a row below 0", c.judge(1, -1), DawnCoin.OUTSIDE);
        DUE.is("the least row of all", c.judge(4, Long.MIN_VALUE), DawnCoin.OUTSIDE);
        DUE.is("four figures for one", c.judge(1, 1000), DawnCoin.OUTSIDE);
        DUE.is("thirteen figures for four", c.judge(4, 1000000000000L), DawnCoin.OUTSIDE);
        DUE.is("twelve figures for four", c.judge(4, 999999999999L), 0);
        DawnCoin fewer = Due.town("YR100R901");
        Due.write(fewer, "YR111");
        fewer.town();
        DUE.is("a rumour of an earlier town is worth nothing", fewer.judge(1, 200), 0);
    }

    private static void nothingChanged() {
        DawnCoin c = Due.town("YR413R600R208X01P0P3S00S13S25");
        c.dawn();
        c.worth(0, 8);
        c.purse(0, 8);
        c.bestDay(0);
        c.reach(0, 5);
        c.plan(0, 8, true);
        c.holds(0, true);
        c.judge(4, 2003100200L);
        c.weeks(20);
        c.rests(0, 1, 8, 1);
        c.share(0, 0, 8, true);
        c.chance(0, 5, 5, true);
        c.where(0, 1);
        DUE.is("day", c.count(3), 1);
        DUE.is("acts", c.count(7), 1);
        DUE.is("coins", c.count(4), 2);
        DUE.is("said 0", c.rumour(0, 3), 3);
        DUE.is("said 1", c.rumour(1, 3), 28);
        DUE.is("said 2", c.rumour(2, 3), 48);
        DUE.is("denied 0", c.rumour(0, 4), 0);
        DUE.is("undo", c.undo(), 0);
        DUE.is("said at first", c.rumour(1, 3), 8);
    }
}
