/** The boundaries of promises 14 to 20: what a rumour, a purse, a plan is worth. */
final class WorthEdges {
    private WorthEdges() {
    }

    static void all(Edges e) {
        worthNow(e);
        worthProved(e);
        worthRefused(e);
        purse(e);
        bestDay(e);
        reach(e);
        plan(e);
        planOfLikeOnes(e);
        planThatCanBe(e);
        planRefused(e);
        holds(e);
        holdsOfLikeOnes(e);
        judgePlaces(e);
        judgeThings(e);
        judgeWorth(e);
        judgeRefused(e);
    }

    private static void worthNow(Edges e) {
        e.edge(14, "WORTH IN n DAYS.", "town YR500S00", "worth(0, 0) 6", "worth(0, 1) 7", "worth(0, 4) 10",
            "worth(0, 5) 11", "worth(0, 8) 11");
        e.edge(14, "else its WORD", "town YR100R900R110", "worth(0, 0) 1", "worth(1, 0) 9", "worth(2, 0) 1");
        e.edge(14, "and 1 for each TABLE at which it is SAID", "town YR900S00S01S02S03S04S05", "worth(0, 0) 15",
            "worth(0, 8) 15");
        e.edge(14, "less 1 for each at which it is DENIED (0 at least).", "town YR300", "deny(0, 0) 0", "worth(0, 0) 2",
            "deny(0, 1) 0", "worth(0, 0) 1", "deny(0, 2) 0", "worth(0, 0) 0", "deny(0, 3) 0", "worth(0, 0) 0",
            "deny(0, 4) 0", "deny(0, 5) 0", "worth(0, 0) 0", "worth(0, 8) 0");
        e.edge(14, "(0 at least).", "town YR100", "deny(0, 0) 0", "deny(0, 1) 0", "worth(0, 0) 0", "say(0, 2) 1",
            "worth(0, 0) 0", "say(0, 3) 2", "worth(0, 0) 1");
    }

    private static void worthProved(Edges e) {
        e.edge(14, "WORTH: of a PROVED lie 0", "town YR913S00", "worth(0, 2) 12", "worth(0, 3) 0", "worth(0, 8) 0",
            "3 dawn()", "worth(0, 0) 0", "worth(0, 8) 0");
        e.edge(14, "of a PROVED true one twice its WORD", "town YR503S00", "worth(0, 2) 8", "worth(0, 3) 10",
            "worth(0, 8) 10", "3 dawn()", "worth(0, 0) 10", "worth(0, 8) 10");
        e.edge(14, "of a PROVED true one twice its WORD", "town YR101R901S00S01S02S03S04S05", "worth(0, 1) 2",
            "worth(1, 1) 18");
        e.edge(14, "of a PROVED true one twice its WORD", "town YR501", "deny(0, 0)", "deny(0, 1)", "deny(0, 2)",
            "deny(0, 3)", "deny(0, 4)", "deny(0, 5)", "worth(0, 0) 0", "worth(0, 1) 10");
        e.edge(14, "PROVED is a RUMOUR from its DAY on.", "town YR508R509R518R519", "worth(0, 7) 5", "worth(0, 8) 10",
            "worth(1, 8) 5", "worth(2, 7) 5", "worth(2, 8) 0", "worth(3, 8) 5", "dawn()", "worth(1, 7) 5",
            "worth(1, 8) 10", "worth(3, 7) 5", "worth(3, 8) 0");
        e.edge(14, "0: never)", "town YR500R510", "50 dawn()", "worth(0, 0) 5", "worth(0, 8) 5", "worth(1, 0) 5",
            "worth(1, 8) 5");
    }

    private static void worthRefused(Edges e) {
        e.edge(14, "UNKNOWN", "town YR500", "worth(-1, 0) UNKNOWN", "worth(-2147483648, 0) UNKNOWN");
        e.edge(14, "UNKNOWN", "town YR500", "worth(1, 0) UNKNOWN", "worth(2147483647, 0) UNKNOWN");
        e.edge(14, "OUTSIDE: n.", "town YR500", "worth(0, -1) OUTSIDE", "worth(0, -2147483648) OUTSIDE");
        e.edge(14, "OUTSIDE: n.", "town YR500", "worth(0, 9) OUTSIDE", "worth(0, 2147483647) OUTSIDE");
        e.edge(14, "REFUSALS, of several the first that a call names", "town YR500", "worth(1, 9) UNKNOWN",
            "worth(-1, -1) UNKNOWN");
        e.edge(14, "IN n DAYS (0 to 8): behind n DAWNS from now on.", "town YR500S00", "worth(0, 0) 6",
            "worth(0, 8) 11", "worth(0, -1) OUTSIDE", "worth(0, 9) OUTSIDE", "dawn()", "worth(0, 0) 7",
            "worth(0, 1) 8");
    }

    private static void purse(Edges e) {
        e.edge(15, "A PURSE IN n DAYS.", "town YR200P0S00", "purse(0, 0) 0", "purse(0, 1) 4", "purse(0, 2) 10",
            "purse(0, 8) 64", "2 dawn()", "purse(0, 0) 10");
        e.edge(15, "A PURSE IN n DAYS.", "town YP0", "purse(0, 0) 0", "purse(0, 8) 0", "town YR500P0", "purse(0, 0) 0",
            "purse(0, 8) 0");
        e.edge(15, "the WORTH of all its COINS together then.", "town YR200R300P0P0S00S10", "2 dawn()",
            "purse(0, 0) 22", "purse(1, 0) 22", "purse(0, 1) 39");
        e.edge(15, "the WORTH of all its COINS together then.", "town YR100R100R100R100R900P0P0P0P5S45", "dawn() 1",
            "purse(3, 0) 11", "purse(3, 1) 24", "purse(2, 8) 60", "purse(0, 0) 0");
        e.edge(15, "(it has 99 of one at most)", "town YR200P0S00", "98 dawn()", "purse(0, 0) 784", "purse(0, 1) 792",
            "purse(0, 2) 792", "purse(0, 8) 792");
        e.edge(15, "WORTH: of a PROVED lie 0", "town YR212P0S00", "purse(0, 1) 4", "purse(0, 2) 0", "purse(0, 8) 0");
        e.edge(15, "UNKNOWN", "town YR500P0", "purse(-1, 0) UNKNOWN", "purse(-2147483648, 0) UNKNOWN");
        e.edge(15, "UNKNOWN", "town YR500P0", "purse(1, 0) UNKNOWN", "purse(2147483647, 0) UNKNOWN");
        e.edge(15, "OUTSIDE: n.", "town YR500P0", "purse(0, -1) OUTSIDE", "purse(0, -2147483648) OUTSIDE");
        e.edge(15, "OUTSIDE: n.", "town YR500P0", "purse(0, 9) OUTSIDE", "purse(0, 2147483647) OUTSIDE");
        e.edge(15, "REFUSALS, of several the first that a call names", "town YR500P0", "purse(1, 9) UNKNOWN",
            "purse(-1, -1) UNKNOWN");
    }

    private static void bestDay(Edges e) {
        e.edge(16, "BEST DAY: the n (0 to 8) by which a PURSE is worth most", "town YR500P0S00", "bestDay(0) 8");
        e.edge(16, "BEST DAY: the n (0 to 8) by which a PURSE is worth most", "town YR519P0S00", "bestDay(0) 8",
            "dawn() 1", "bestDay(0) 7", "7 dawn()", "bestDay(0) 0", "dawn() 1", "bestDay(0) 0");
        e.edge(16, "BEST DAY: the n (0 to 8) by which a PURSE is worth most", "town YR513P0S00", "bestDay(0) 2");
        // The second one's purse is worth 12 now, and 5 at most once the lie is proved; the first one's is empty.
        e.edge(16, "BEST DAY: the n (0 to 8) by which a PURSE is worth most", "town YR912R100P5P0S00S10", "dawn() 2",
            "deny(1, 0) 1", "purse(1, 0) 12", "purse(1, 8) 5", "bestDay(1) 0", "bestDay(0) 8");
        e.edge(16, "of like ones the least.", "town YP0", "bestDay(0) 0", "town YR500P0P5S00", "deny(0, 1) 1",
            "bestDay(1) 0");
        e.edge(16, "of like ones the least.", "town YR200P0S00S01S02S03S04S05", "97 dawn()", "bestDay(0) 2", "dawn() 1",
            "bestDay(0) 1", "dawn() 1", "bestDay(0) 0");
        e.edge(16, "UNKNOWN", "town YR500P0", "bestDay(-1) UNKNOWN", "bestDay(-2147483648) UNKNOWN");
        e.edge(16, "UNKNOWN", "town YR500P0", "bestDay(1) UNKNOWN", "bestDay(2147483647) UNKNOWN");
    }

    private static void reach(Edges e) {
        String words = "the least n (0 to 8) IN which it is SAID there; NONE.";
        e.edge(17, words, "town YR500S00", "reach(0, 0) 0", "reach(0, 1) 1", "reach(0, 4) 4", "reach(0, 5) 5");
        e.edge(17, words, "town YR500S00S05", "reach(0, 5) 0", "reach(0, 2) 2", "reach(0, 3) 2");
        e.edge(17, "REACH; NONE.", "town YR500", "reach(0, 0) NONE", "reach(0, 5) NONE");
        e.edge(17, "REACH; NONE.", "town YR500S01", "deny(0, 3) 1", "reach(0, 2) 1", "reach(0, 3) NONE",
            "reach(0, 4) NONE", "reach(0, 5) NONE");
        e.edge(17, "a lie that is PROVED then is SAID nowhere.", "town YR516R515S00S10", "reach(0, 5) 5",
            "reach(1, 4) 4", "reach(1, 5) NONE", "6 dawn()", "reach(0, 0) NONE");
        e.edge(17, "a lie that is PROVED then is SAID nowhere.", "town YR501S00", "reach(0, 5) 5", "2 dawn()",
            "reach(0, 2) 0", "reach(0, 5) 3");
        e.edge(17, "UNKNOWN", "town YR500S00", "reach(-1, 0) UNKNOWN", "reach(-2147483648, 0) UNKNOWN");
        e.edge(17, "UNKNOWN", "town YR500S00", "reach(1, 0) UNKNOWN", "reach(2147483647, 0) UNKNOWN");
        e.edge(17, "OUTSIDE: table.", "town YR500S00", "reach(0, -1) OUTSIDE", "reach(0, -2147483648) OUTSIDE");
        e.edge(17, "OUTSIDE: table.", "town YR500S00", "reach(0, 6) OUTSIDE", "reach(0, 32) OUTSIDE",
            "reach(0, 2147483647) OUTSIDE");
        e.edge(17, "REFUSALS, of several the first that a call names", "town YR500", "reach(1, 6) UNKNOWN",
            "reach(-1, -1) UNKNOWN");
    }

    private static void plan(Edges e) {
        String words = "what is SAID now (0 to 2 things that can be, one behind the other) by which its PURSE is worth most";
        e.edge(18, "PLAN: how much (row = false), the row (row = true).", "town YR500P0", "plan(0, 1, false) 10",
            "plan(0, 1, true) 10003");
        e.edge(18, "1: nothing", "town YP0", "plan(0, 8, false) 0", "plan(0, 8, true) 1");
        e.edge(18, "1: nothing", "town YR500P0", "plan(0, 0, false) 0", "plan(0, 0, true) 1");
        e.edge(18, "1: nothing", "town YR511P0", "plan(0, 1, false) 0", "plan(0, 1, true) 1", "town YR512P0",
            "plan(0, 1, true) 10003", "plan(0, 2, true) 1");
        // A third table would be worth more still, but two things are the most.
        e.edge(18, words, "town YR500P0S00", "dawn() 1", "plan(0, 0, false) 9", "plan(0, 0, true) 10203");
        e.edge(18, words, "town YR500P0S00", "dawn() 1", "deny(0, 2) 2", "deny(0, 3) 2", "deny(0, 4) 2",
            "plan(0, 0, false) 5", "plan(0, 0, true) 105", "deny(0, 5) 2", "plan(0, 0, false) 3", "plan(0, 0, true) 1");
        e.edge(18, "(as figures behind a 1: RUMOUR, TABLE each", "town YR101R101R101R101R500P0S40", "dawn() 1",
            "deny(4, 0) 1", "deny(4, 1) 0", "deny(4, 2) 0", "deny(4, 3) 0", "plan(0, 0, false) 3",
            "plan(0, 0, true) 14445");
        e.edge(18, "(as figures behind a 1: RUMOUR, TABLE each", "town YR101R500P0", "dawn() 0", "plan(0, 8, true) 110",
            "town YR101R101R101R101R500P0", "dawn() 0", "plan(0, 8, true) 140", "town YR101R101R101R101R500P5",
            "dawn() 0", "plan(0, 8, false) 88", "plan(0, 8, true) 145");
        e.edge(18, "its PURSE is worth most IN n DAYS", "town YR500P0", "plan(0, 8, false) 88", "plan(0, 8, true) 100");
    }

    private static void planOfLikeOnes(Edges e) {
        e.edge(18, "of like ones fewer", "town YR500P0S00S01S02S03S04", "plan(0, 1, false) 11", "plan(0, 1, true) 1");
        e.edge(18, "of like ones fewer", "town YR500P0S01S02S03S04S05", "plan(0, 1, false) 11", "plan(0, 1, true) 100");
        // One table more or two would not lift it above 0; only when two do, they are said.
        e.edge(18, "of like ones fewer", "town YR100P0S00", "dawn() 1", "deny(0, 0) 1", "deny(0, 1) 0",
            "plan(0, 0, false) 1", "plan(0, 0, true) 10203", "deny(0, 2) 0", "plan(0, 0, false) 0",
            "plan(0, 0, true) 1");
        e.edge(18, "then the first", "town YR500P0S00S01S02", "plan(0, 1, false) 11", "plan(0, 1, true) 104");
        e.edge(18, "the least as a number)", "town YR500R500P0", "plan(0, 1, false) 14", "plan(0, 1, true) 10010");
        e.edge(18, "the least as a number)", "town YR500P2S00", "plan(0, 1, false) 11", "plan(0, 1, true) 10204");
    }

    private static void planThatCanBe(Edges e) {
        String words = "(0 to 2 things that can be, one behind the other)";
        e.edge(18, words, "town YR501P0", "dawn() 0", "plan(0, 8, false) 0", "plan(0, 8, true) 1");
        e.edge(18, words, "town YR500P0S00", "dawn() 1", "deny(0, 2) 2", "plan(0, 0, false) 8",
            "plan(0, 0, true) 10304");
        e.edge(18, words, "town YR500P0S00", "dawn() 1", "deny(0, 3) 2", "deny(0, 4) 2", "deny(0, 5) 2",
            "plan(0, 0, false) 5", "plan(0, 0, true) 102");
        e.edge(18, words, "town YR500P0S00S01S02S03S04S05", "dawn() 1", "plan(0, 0, false) 11", "plan(0, 0, true) 1");
        e.edge(18, words, "town YR509P0", "8 dawn()", "plan(0, 1, false) 10", "plan(0, 1, true) 100", "dawn()",
            "plan(0, 1, false) 0", "plan(0, 1, true) 1");
    }

    private static void planRefused(Edges e) {
        e.edge(18, "UNKNOWN", "town YR500P0", "plan(-1, 0, true) UNKNOWN", "plan(-1, 0, false) UNKNOWN",
            "plan(-2147483648, 0, false) UNKNOWN");
        e.edge(18, "UNKNOWN", "town YR500P0", "plan(1, 0, true) UNKNOWN", "plan(1, 0, false) UNKNOWN",
            "plan(2147483647, 0, false) UNKNOWN");
        e.edge(18, "OUTSIDE: n.", "town YR500P0", "plan(0, -1, true) OUTSIDE", "plan(0, -1, false) OUTSIDE",
            "plan(0, -2147483648, false) OUTSIDE");
        e.edge(18, "OUTSIDE: n.", "town YR500P0", "plan(0, 9, true) OUTSIDE", "plan(0, 9, false) OUTSIDE",
            "plan(0, 2147483647, false) OUTSIDE");
        e.edge(18, "REFUSALS, of several the first that a call names", "town YR500P0", "plan(1, 9, true) UNKNOWN",
            "plan(-1, -1, false) UNKNOWN");
        e.edge(18, "In what follows nothing is changed.", "town YR500P0S00", "plan(0, 8, true)", "plan(0, 3, false)",
            "judge(3, 200003100)", "rumour(0, 3) 1", "rumour(0, 4) 0", "count(3) 0", "count(4) 0", "count(7) 0");
    }

    private static void holds(Edges e) {
        String words = "of all sets of RUMOURS of which no two can not both be";
        e.edge(19, "that by which the COINS of a PERSON of these are worth most now", "town YR500R600X01P0P1S00S11",
            "dawn() 2", "dawn() 4", "holds(0, false) 16", "holds(0, true) 1", "dawn() 4", "holds(0, false) 27",
            "holds(0, true) 1");
        e.edge(19, "HOLDS: how much (which = false), the set (which = true: bits).", "town YR500P0P5S00",
            "holds(0, false) 0", "holds(0, true) 0", "dawn() 1", "holds(0, false) 7", "holds(0, true) 1",
            "holds(1, false) 0", "holds(1, true) 0");
        e.edge(19, "HOLDS: how much (which = false), the set (which = true: bits).", "town YP0", "holds(0, false) 0",
            "holds(0, true) 0");
        e.edge(19, words, "town YR400R500R300P0S00S10S20", "dawn() 3", "holds(0, false) 18", "holds(0, true) 7");
        e.edge(19, words, "town YR400R500R300X01X02X12P0S00S10S20", "dawn() 3", "holds(0, false) 7",
            "holds(0, true) 2");
        e.edge(19, words, "town YR400R500R300X01P0S00S10S20", "dawn() 3", "holds(0, false) 12", "holds(0, true) 6");
        e.edge(19, words, "town YR100R100R100R100R100P0S00S10S20S30S40", "dawn() 5", "holds(0, false) 15",
            "holds(0, true) 31");
        e.edge(19, words, "town YR100R100R100R100R100P0X04S00S10S20S30S40", "dawn() 5", "holds(0, false) 12",
            "holds(0, true) 15");
    }

    private static void holdsOfLikeOnes(Edges e) {
        e.edge(19, "of like sets the fewest RUMOURS", "town YR400R100R100X01X02P0S00S10S20", "dawn() 3",
            "holds(0, false) 6", "holds(0, true) 1");
        e.edge(19, "of like sets the fewest RUMOURS", "town YR100R100R400X02X12P0S00S10S20", "dawn() 3",
            "holds(0, false) 6", "holds(0, true) 4");
        e.edge(19, "of like sets the fewest RUMOURS", "town YR111R100R100P0S00S10", "dawn() 2", "holds(0, false) 3",
            "holds(0, true) 2");
        e.edge(19, "then the least (bits).", "town YR100R100X01P0S00S10", "dawn() 2", "holds(0, false) 3",
            "holds(0, true) 1");
        e.edge(19, "then the least (bits).", "town YR100R100R100R100P0X01X02X13X23S00S10S20S30", "dawn() 4",
            "holds(0, false) 6", "holds(0, true) 6");
        e.edge(19, "UNKNOWN", "town YR500P0", "holds(-1, true) UNKNOWN", "holds(-1, false) UNKNOWN",
            "holds(-2147483648, true) UNKNOWN");
        e.edge(19, "UNKNOWN", "town YR500P0", "holds(1, true) UNKNOWN", "holds(1, false) UNKNOWN",
            "holds(2147483647, true) UNKNOWN");
    }

    private static void judgePlaces(Edges e) {
        String words = "the place of the first that can not be";
        e.edge(20, "JUDGED; NONE.", "town YR500", "judge(1, 0) NONE", "judge(4, 1002003) NONE");
        e.edge(20, words, "town YR500S00", "judge(1, 0) 0", "judge(4, 0) 0");
        e.edge(20, words, "town YR500", "judge(4, 1002) 1", "judge(4, 1001003) 2", "judge(4, 1002002) 3");
        e.edge(20, words, "town YR500", "judge(3, 200001) 2", "judge(3, 200002) NONE");
        e.edge(20, words, "judge(1, 200) NONE", "judge(4, 200200200200) NONE", "judge(1, 0) 0", "judge(1, 100) 0");
    }

    private static void judgeThings(Edges e) {
        e.edge(20, "told as three figures each (0, RUMOUR, TABLE: SAID", "town YR500R500", "judge(1, 5) NONE",
            "judge(1, 6) 0", "judge(1, 9) 0", "judge(1, 15) NONE", "judge(1, 20) 0", "judge(1, 90) 0");
        e.edge(20, "1, RUMOUR, TABLE: DENIED", "town YR500R100", "deny(1, 0) 0", "judge(1, 115) NONE",
            "judge(1, 116) 0", "judge(1, 110) 0", "judge(1, 120) 0", "judge(1, 190) 0", "judge(2, 115115) 1",
            "judge(2, 115015) 1");
        e.edge(20, "1, RUMOUR, TABLE: DENIED", "town YR101R101R101R101R111", "dawn()", "judge(1, 140) NONE",
            "judge(1, 145) NONE", "judge(1, 146) 0", "judge(1, 150) 0", "judge(1, 199) 0");
        e.edge(20, "1, RUMOUR, TABLE: DENIED", "town YR501R511", "dawn()", "judge(1, 100) 0", "judge(1, 110) NONE",
            "judge(1, 0) 0", "judge(1, 10) 0");
        e.edge(20, "2, any two: a DAWN)", "town YR500", "judge(1, 200) NONE", "judge(1, 299) NONE",
            "judge(1, 266) NONE", "judge(1, 295) NONE");
        e.edge(20, "2, any two: a DAWN)", "town YR500P0S00", "judge(4, 200200200200) NONE", "judge(2, 201001) 1");
        e.edge(20, "the place of the first that can not be", "town YR500", "judge(1, 300) 0", "judge(1, 900) 0",
            "judge(2, 200300) 1");
    }

    private static void judgeWorth(Edges e) {
        String words = "or behind which all RUMOURS together are worth less than ahead of it; NONE: none.";
        e.edge(20, words, "town YR500R500", "judge(1, 100) 0", "judge(2, 200100) 1", "judge(2, 5100) 1");
        e.edge(20, words, "town YR100", "deny(0, 0) 0", "judge(1, 101) NONE", "judge(4, 101102103104) NONE");
        // One loses what another one gains: not less. One more, and it is.
        e.edge(20, words, "town YR211R201", "judge(1, 200) NONE", "town YR311R201", "judge(1, 200) 0");
        // A rumour of an earlier town is none of them.
        e.edge(20, words, "town YR100R901", "town YR111", "judge(1, 200) 0");
        e.edge(20, words, "town YR514", "judge(4, 200200200200) 3", "dawn()", "judge(4, 200200200200) 2", "3 dawn()",
            "judge(4, 200200200200) NONE");
    }

    private static void judgeRefused(Edges e) {
        String words = "OUTSIDE: n, row (0 or more, 3 n figures at most).";
        e.edge(20, "JUDGED: n things (1 to 4)", "town YR500", "judge(0, 0) OUTSIDE", "judge(-1, 0) OUTSIDE",
            "judge(-2147483648, 0) OUTSIDE");
        e.edge(20, "JUDGED: n things (1 to 4)", "town YR500", "judge(1, 200) NONE", "judge(4, 200200200200) NONE",
            "judge(5, 200) OUTSIDE", "judge(2147483647, 200) OUTSIDE");
        e.edge(20, words, "town YR500", "judge(1, -1) OUTSIDE", "judge(1, -200) OUTSIDE", "judge(4, -1) OUTSIDE",
            "judge(4, -9223372036854775808) OUTSIDE", "judge(1, 0) NONE");
        e.edge(20, words, "town YR500", "judge(1, 999) 0", "judge(1, 1000) OUTSIDE", "judge(1, 1200) OUTSIDE",
            "judge(1, 4294967496) OUTSIDE");
        e.edge(20, words, "town YR500", "judge(2, 200999) 1", "judge(2, 999999) 0", "judge(2, 1000000) OUTSIDE");
        e.edge(20, words, "town YR500", "judge(3, 999999999) 0", "judge(3, 1000000000) OUTSIDE");
        e.edge(20, words, "town YR500", "judge(4, 999999999999) 0", "judge(4, 200200200999) 3",
            "judge(4, 1000000000000) OUTSIDE", "judge(4, 9223372036854775807) OUTSIDE");
    }
}
