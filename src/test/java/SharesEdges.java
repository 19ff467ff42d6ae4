/** The boundaries of promises 24 to 28: shares, two that talk, chances, the seed and weeks. */
final class SharesEdges {
    private static final String ALL_SAID = "S00S01S02S03S04S05";

    private SharesEdges() {
    }

    static void all(Edges e) {
        share(e);
        shareOfNothing(e);
        shareRefused(e);
        rests(e);
        restsThatCanBe(e);
        restsRefused(e);
        chance(e);
        chanceOfProved(e);
        chanceRefused(e);
        seed(e);
        weeks(e);
        weeksSaid(e);
        weeksRefused(e);
    }

    private static void share(Edges e) {
        e.edge(24, "SHARE.", "town YR500S02", "share(2, 0, 0, true) 1", "share(2, 0, 0, false) 1",
            "share(2, 0, 1, true) 3", "share(2, 0, 1, false) 1", "share(2, 0, 8, true) 6", "share(2, 0, 8, false) 1");
        e.edge(24, "in least terms", "town YR500S00S01", "share(0, 0, 1, true) 1", "share(0, 0, 1, false) 1",
            "share(0, 0, 2, true) 3", "share(0, 0, 2, false) 2", "share(1, 0, 2, true) 5", "share(1, 0, 2, false) 2");
        e.edge(24, "in least terms", "town YR500S00S02S04", "share(0, 0, 1, true) 3", "share(0, 0, 1, false) 2",
            "share(2, 0, 1, true) 2", "share(2, 0, 1, false) 1", "share(4, 0, 1, true) 5", "share(4, 0, 1, false) 2");
        e.edge(24, "if TABLES at which it is SAID now come one by one, in each order as likely",
            "town YR500" + ALL_SAID, "share(0, 0, 0, true) 1", "share(5, 0, 0, false) 1", "share(0, 0, 8, true) 1",
            "share(5, 0, 8, true) 1", "share(0, 0, 1, true) 5", "share(0, 0, 1, false) 6", "share(1, 0, 1, true) 7",
            "share(1, 0, 1, false) 6", "share(2, 0, 1, true) 1", "share(2, 0, 1, false) 1");
        // What is told as below 0 does not come: no table that comes makes a rumour worth less.
        e.edge(24, "told above (upper = true; below 0, if they are), below (1 and more)", "town YR100S00S05",
            "deny(0, 1) 2", "deny(0, 2) 2", "share(0, 0, 0, true) 1", "share(0, 0, 0, false) 2",
            "share(5, 0, 0, true) 1", "share(5, 0, 0, false) 2");
        e.edge(24, "by how much in the mean its WORTH IN n DAYS is more when that one has come than it was",
            "town YR500S00S03", "share(0, 0, 2, true) 2", "share(0, 0, 2, false) 1", "share(3, 0, 2, true) 4",
            "share(3, 0, 2, false) 1", "share(0, 0, 1, true) 2", "share(3, 0, 1, true) 3");
        e.edge(24, "(at others it is not SAID)", "town YR500S00S05", "share(0, 0, 1, true) 2",
            "share(0, 0, 1, false) 1", "share(0, 0, 2, true) 3", "share(0, 0, 5, true) 3", "share(5, 0, 5, false) 1");
    }

    private static void shareOfNothing(Edges e) {
        e.edge(24, "0, if it is not SAID there.", "town YR500R500S02", "share(0, 0, 0, true) 0",
            "share(0, 0, 0, false) 1", "share(3, 0, 1, true) 0", "share(3, 0, 8, false) 1", "share(2, 1, 0, true) 0",
            "share(2, 1, 0, false) 1");
        e.edge(24, "0, if it is not SAID there.", "town YR500S02", "deny(0, 2) 0", "share(2, 0, 0, true) 0",
            "share(2, 0, 0, false) 1");
        e.edge(24, "(0 at least).", "town YR100S00", "deny(0, 1) 1", "deny(0, 2) 1", "share(0, 0, 0, true) 0",
            "share(0, 0, 0, false) 1");
        e.edge(24, "of a PROVED true one twice its WORD", "town YR502S00", "share(0, 0, 1, true) 2",
            "share(0, 0, 2, true) 0", "share(0, 0, 2, false) 1", "2 dawn()", "share(0, 0, 0, true) 0",
            "share(0, 0, 0, false) 1");
        e.edge(24, "WORTH: of a PROVED lie 0", "town YR512S00", "share(0, 0, 1, true) 2", "share(0, 0, 2, true) 0",
            "share(0, 0, 2, false) 1");
    }

    private static void shareRefused(Edges e) {
        e.edge(24, "UNKNOWN", "town YR500S00", "share(0, -1, 0, true) UNKNOWN", "share(0, -1, 0, false) UNKNOWN",
            "share(0, -2147483648, 0, true) UNKNOWN");
        e.edge(24, "UNKNOWN", "town YR500S00", "share(0, 1, 0, true) UNKNOWN", "share(0, 1, 0, false) UNKNOWN",
            "share(0, 2147483647, 0, false) UNKNOWN");
        e.edge(24, "OUTSIDE: table, n.", "town YR500S00", "share(-1, 0, 0, true) OUTSIDE",
            "share(-1, 0, 0, false) OUTSIDE", "share(-2147483648, 0, 0, true) OUTSIDE");
        e.edge(24, "OUTSIDE: table, n.", "town YR500S00", "share(6, 0, 0, true) OUTSIDE",
            "share(6, 0, 0, false) OUTSIDE", "share(32, 0, 0, true) OUTSIDE", "share(2147483647, 0, 0, false) OUTSIDE");
        e.edge(24, "OUTSIDE: table, n.", "town YR500S00", "share(0, 0, -1, true) OUTSIDE",
            "share(0, 0, -1, false) OUTSIDE", "share(1, 0, -1, true) OUTSIDE",
            "share(0, 0, -2147483648, true) OUTSIDE");
        e.edge(24, "OUTSIDE: table, n.", "town YR500S00", "share(0, 0, 9, true) OUTSIDE",
            "share(0, 0, 9, false) OUTSIDE", "share(1, 0, 9, false) OUTSIDE", "share(0, 0, 2147483647, false) OUTSIDE");
        e.edge(24, "refusals of them are told likewise.", "town YR500S00", "share(0, 1, 0, true) UNKNOWN",
            "share(0, 1, 0, false) UNKNOWN", "share(6, 0, 0, true) OUTSIDE", "share(6, 0, 0, false) OUTSIDE");
        e.edge(24, "REFUSALS, of several the first that a call names", "town YR500", "share(6, 1, 9, true) UNKNOWN",
            "share(-1, -1, -1, false) UNKNOWN");
    }

    private static void rests(Edges e) {
        e.edge(25, "RESTS: how many (what = 0), the first (1); NONE.", "town YR500P0P5", "rests(0, 1, 1, 0) 1",
            "rests(0, 1, 1, 1) 11");
        e.edge(25, "each wants its own PURSE worth most IN n DAYS", "town YR500R900P0P5S00S10", "rests(0, 1, 1, 0) 1",
            "rests(0, 1, 1, 1) 2", "rests(1, 0, 1, 1) 20");
        e.edge(25, "each wants its own PURSE worth most IN n DAYS", "town YR200R300P0P5S03S04S05",
            "rests(0, 1, 1, 0) 1", "rests(0, 1, 1, 1) 12");
        // Neither holds a coin of the one that can be said: all four pairs leave both purses as they are.
        e.edge(25, "each wants its own PURSE worth most IN n DAYS", "town YR500R500P0P5S00S05", "dawn() 2",
            "rests(0, 1, 0, 0) 4", "rests(0, 1, 0, 1) 0");
        e.edge(25, "0 none, else the RUMOUR and 1); NONE.", "town YR409R518P0P2", "deny(1, 1) 0", "rests(0, 1, 3, 0) 0",
            "rests(0, 1, 3, 1) NONE", "rests(0, 1, 0, 0) 9", "rests(0, 1, 0, 1) 0");
        e.edge(25, "or none; the first one first", "town YP0P0", "rests(0, 1, 0, 0) 1", "rests(0, 1, 8, 1) 0");
        e.edge(25, "pairs in which neither has more by another choice alone", "town YR500P0P0", "rests(0, 1, 0, 0) 4",
            "rests(0, 1, 0, 1) 0", "town YR511P0P5", "rests(0, 1, 1, 0) 4", "rests(0, 1, 1, 1) 0");
        e.edge(25, "pairs in which neither has more by another choice alone", "town YR500R300P0P0",
            "rests(0, 1, 1, 0) 2", "rests(0, 1, 1, 1) 12");
        e.edge(25, "the first (10 times the one and the other; 0 none, else the RUMOUR and 1)",
            "town YR111R111R111R111R900P0P5", "rests(0, 1, 1, 0) 1", "rests(0, 1, 1, 1) 55");
        e.edge(25, "(the other one's is no ACT, if it can not be then, and counts all the same)", "town YR500P0P0",
            "rests(0, 1, 1, 0) 3", "rests(0, 1, 1, 1) 1", "rests(1, 0, 1, 0) 3", "rests(1, 0, 1, 1) 1");
    }

    private static void restsThatCanBe(Edges e) {
        String words = "(one that can be SAID there)";
        e.edge(25, words, "town YR500P0P5S00S05", "rests(0, 1, 0, 0) 1", "rests(0, 1, 0, 1) 0", "rests(0, 1, 8, 0) 1");
        e.edge(25, words, "town YR500P0P5S00", "rests(0, 1, 1, 0) 1", "rests(0, 1, 1, 1) 1", "rests(1, 0, 1, 1) 10");
        e.edge(25, words, "town YR500P0P5", "deny(0, 0) 0", "rests(0, 1, 0, 0) 2", "rests(0, 1, 1, 0) 1",
            "rests(0, 1, 1, 1) 1");
        e.edge(25, words, "town YR501P0P5", "rests(0, 1, 0, 0) 4", "dawn()", "rests(0, 1, 0, 0) 1",
            "rests(0, 1, 8, 1) 0");
    }

    private static void restsRefused(Edges e) {
        e.edge(25, "UNKNOWN: both", "town YR500P0P5", "rests(-1, 1, 0, 0) UNKNOWN", "rests(2, 1, 0, 0) UNKNOWN",
            "rests(-2147483648, 1, 0, 1) UNKNOWN");
        e.edge(25, "UNKNOWN: both", "town YR500P0P5", "rests(0, -1, 0, 0) UNKNOWN", "rests(0, 2, 0, 1) UNKNOWN",
            "rests(0, 2147483647, 0, 0) UNKNOWN");
        e.edge(25, "OUTSIDE: both are one, n, what.", "town YR500P0P5", "rests(0, 0, 0, 0) OUTSIDE",
            "rests(1, 1, 0, 1) OUTSIDE");
        e.edge(25, "OUTSIDE: both are one, n, what.", "town YR500P0P5", "rests(0, 1, -1, 0) OUTSIDE",
            "rests(0, 1, -2147483648, 1) OUTSIDE");
        e.edge(25, "OUTSIDE: both are one, n, what.", "town YR500P0P5", "rests(0, 1, 8, 0) 1",
            "rests(0, 1, 9, 0) OUTSIDE", "rests(0, 1, 2147483647, 1) OUTSIDE");
        e.edge(25, "OUTSIDE: both are one, n, what.", "town YR500P0P5", "rests(0, 1, 0, -1) OUTSIDE",
            "rests(0, 1, 0, 2) OUTSIDE", "rests(0, 1, 0, -2147483648) OUTSIDE", "rests(0, 1, 0, 2147483647) OUTSIDE");
        e.edge(25, "REFUSALS, of several the first that a call names", "town YR500P0P5", "rests(2, 2, 0, 0) UNKNOWN",
            "rests(2, 0, 9, 2) UNKNOWN", "rests(0, 2, -1, -1) UNKNOWN");
    }

    private static void chance(Edges e) {
        e.edge(26, "DENIES it by x tenths (0 to 10), by itself", "town YR500S00", "chance(0, 7, 0, true) 1",
            "chance(0, 7, 0, false) 1", "chance(0, 7, 10, true) 0", "chance(0, 7, 10, false) 1",
            "chance(0, 7, 3, true) 7", "chance(0, 7, 3, false) 10");
        e.edge(26, "in least terms", "town YR500S00", "chance(0, 7, 5, true) 1", "chance(0, 7, 5, false) 2",
            "chance(0, 7, 4, true) 3", "chance(0, 7, 4, false) 5");
        e.edge(26, "that it is worth w (0 to 20) or more IN 1 DAY", "town YR500S00", "chance(0, 0, 5, true) 1",
            "chance(0, 0, 5, false) 1", "chance(0, 4, 5, true) 1", "chance(0, 4, 5, false) 1",
            "chance(0, 5, 5, true) 1", "chance(0, 5, 5, false) 2", "chance(0, 7, 5, false) 2",
            "chance(0, 8, 5, true) 0", "chance(0, 8, 5, false) 1", "chance(0, 20, 0, true) 0",
            "chance(0, 20, 0, false) 1");
        e.edge(26, "each TABLE at which a RUMOUR is SAID now DENIES it", "town YR900" + ALL_SAID,
            "chance(0, 15, 3, true) 117649", "chance(0, 15, 3, false) 1000000", "chance(0, 13, 3, true) 16807",
            "chance(0, 13, 3, false) 40000", "chance(0, 3, 10, true) 1", "chance(0, 4, 10, true) 0");
        e.edge(26, "each TABLE at which a RUMOUR is SAID now DENIES it", "town YR500", "chance(0, 5, 10, true) 1",
            "chance(0, 5, 10, false) 1", "chance(0, 6, 0, true) 0", "chance(0, 6, 0, false) 1");
        e.edge(26, "(0 at least).", "town YR100S00S05", "chance(0, 0, 10, true) 1", "chance(0, 0, 10, false) 1",
            "chance(0, 1, 10, true) 0", "chance(0, 1, 10, false) 1");
    }

    private static void chanceOfProved(Edges e) {
        e.edge(26, "(none, if it is a PROVED true one)", "town YR501S00", "dawn()", "chance(0, 10, 10, true) 1",
            "chance(0, 10, 10, false) 1", "chance(0, 11, 0, true) 0", "chance(0, 11, 5, false) 1");
        e.edge(26, "PROVED is a RUMOUR from its DAY on.", "town YR502S00", "chance(0, 7, 5, true) 1",
            "chance(0, 7, 5, false) 2", "dawn()", "chance(0, 10, 10, true) 1", "chance(0, 11, 0, true) 0");
        e.edge(26, "of a PROVED true one twice its WORD", "town YR901", "chance(0, 18, 5, true) 1",
            "chance(0, 18, 5, false) 1", "chance(0, 19, 5, true) 0");
        e.edge(26, "WORTH: of a PROVED lie 0", "town YR911S00", "chance(0, 0, 5, true) 1", "chance(0, 0, 5, false) 1",
            "chance(0, 1, 0, true) 0", "chance(0, 1, 0, false) 1", "dawn()", "chance(0, 0, 10, true) 1",
            "chance(0, 1, 0, true) 0");
    }

    private static void chanceRefused(Edges e) {
        e.edge(26, "UNKNOWN", "town YR500S00", "chance(-1, 0, 0, true) UNKNOWN", "chance(-1, 0, 0, false) UNKNOWN",
            "chance(-2147483648, 0, 0, true) UNKNOWN");
        e.edge(26, "UNKNOWN", "town YR500S00", "chance(1, 0, 0, true) UNKNOWN", "chance(1, 0, 0, false) UNKNOWN",
            "chance(2147483647, 0, 0, true) UNKNOWN");
        e.edge(26, "OUTSIDE: w, x.", "town YR500S00", "chance(0, -1, 0, true) OUTSIDE",
            "chance(0, -1, 0, false) OUTSIDE", "chance(0, -2147483648, 0, true) OUTSIDE");
        e.edge(26, "OUTSIDE: w, x.", "town YR500S00", "chance(0, 20, 0, true) 0", "chance(0, 21, 0, true) OUTSIDE",
            "chance(0, 21, 0, false) OUTSIDE", "chance(0, 2147483647, 0, true) OUTSIDE");
        e.edge(26, "OUTSIDE: w, x.", "town YR500S00", "chance(0, 0, -1, true) OUTSIDE",
            "chance(0, 0, -1, false) OUTSIDE", "chance(0, 0, -2147483648, true) OUTSIDE");
        e.edge(26, "OUTSIDE: w, x.", "town YR500S00", "chance(0, 0, 10, true) 1", "chance(0, 0, 11, true) OUTSIDE",
            "chance(0, 0, 11, false) OUTSIDE", "chance(0, 0, 2147483647, true) OUTSIDE");
        e.edge(26, "refusals of them are told likewise.", "town YR500S00", "chance(1, 0, 0, true) UNKNOWN",
            "chance(1, 0, 0, false) UNKNOWN", "chance(0, 21, 0, true) OUTSIDE", "chance(0, 21, 0, false) OUTSIDE");
        e.edge(26, "REFUSALS, of several the first that a call names", "town YR500S00",
            "chance(1, 21, 11, true) UNKNOWN", "chance(-1, -1, -1, false) UNKNOWN");
    }

    private static void seed(Edges e) {
        e.edge(27, "THE SEED is v: what it was.", "seed(5) 0", "seed(-5) 5", "seed(9223372036854775807) -5",
            "seed(-9223372036854775808) 9223372036854775807", "seed(0) -9223372036854775808", "seed(0) 0");
        e.edge(27, "(THE SEED, a long; 0 at first)", "seed(0) 0", "weeks(1) 0", "seed(0) 1442695040888963407");
        e.edge(27, "(64 bits, wrapping)", "seed(9223372036854775807)", "weeks(1) 0",
            "seed(-9223372036854775808) 4301930853896946210", "weeks(1) 0", "seed(-1) -7780676995965812401",
            "weeks(1) 0", "seed(0) -4921441182957829598");
        e.edge(27, "(64 bits, wrapping)", "seed(-7379792620528906219)", "weeks(1) 0", "seed(-2810872687533676688) 0",
            "weeks(1) 0", "seed(1843579416325869589) -1", "weeks(1) 0",
            "seed(6412499349321099120) -9223372036854775808", "weeks(1) 0", "seed(0) 9223372036854775807");
    }

    private static void weeks(Edges e) {
        e.edge(28, "WEEKS by THE SEED: m DAWNS (1 to 20)", "weeks(1) 0", "seed(0) 1442695040888963407", "weeks(20) 0",
            "seed(0) 7571309944655988996");
        e.edge(28, "ahead of each x (THE SEED, a long; 0 at first) becomes", "town YR500P5", "weeks(4) 0", "seed(0)",
            "weeks(5) 7", "seed(0)", "weeks(6) 16", "seed(0) -8100709956324362746");
        e.edge(28, "what all PURSES are worth at last.", "town YR500P5P5P5P4", "weeks(5) 21", "seed(0)", "weeks(6) 56");
        e.edge(28, "what all PURSES are worth at last.", "town YR500S00", "weeks(20) 0", "town YR500P0S00", "98 dawn()",
            "weeks(1) 1089", "weeks(20) 1089");
        e.edge(28, "a lie that is PROVED then is SAID nowhere.", "town YR516P5", "weeks(5) 7", "seed(0)", "weeks(6) 0");
        e.edge(28, "(Nothing changes but THE SEED.)", "town YR500P5S05", "keep(0) 0", "dawn() 1", "deny(0, 0) 2",
            "hear(0, 5, 0, true) 1", "weeks(20)", "count(3) 1", "count(4) 1", "count(7) 2", "count(8) 1",
            "rumour(0, 3) 48", "rumour(0, 4) 1", "undo() 1", "rumour(0, 4) 0", "again(0) 0");
    }

    private static void weeksSaid(Edges e) {
        // The first numbers by 60 of these seeds, from x of 0 and more and from x below 0: 0, 5, then 6, 9, no tables.
        e.edge(28, "its upper 31 bits by 60, what is left", "town YR500P0", "seed(224)", "weeks(1) 7", "seed(156)",
            "weeks(1) 7");
        e.edge(28, "what is left by 10 a TABLE", "town YR500P5", "seed(61)", "weeks(1) 7", "seed(327)", "weeks(1) 7");
        e.edge(28, "if there are such ones and it can be", "town YR500R500P0P5", "seed(267)", "weeks(1) 0", "seed(199)",
            "weeks(1) 0", "seed(247)", "weeks(1) 0", "seed(179)", "weeks(1) 0");
        // 10: rumour 1 at table 0; 45: rumour 4 at table 5; 50, 55, 59: there is no rumour 5.
        e.edge(28, "that by 10 (down) is a RUMOUR", "town YR500R300P0", "seed(36)", "weeks(1) 5", "seed(51)",
            "weeks(1) 5");
        e.edge(28, "if there are such ones and it can be", "town YR500P0", "seed(36)", "weeks(1) 0", "seed(51)",
            "weeks(1) 0");
        e.edge(28, "that by 10 (down) is a RUMOUR", "town YR100R100R100R100R900P5", "seed(256)", "weeks(1) 11",
            "seed(173)", "weeks(1) 11");
        e.edge(28, "if there are such ones and it can be", "town YR100R100R100R100R900P0P5", "seed(427)", "weeks(1) 0",
            "seed(344)", "weeks(1) 0", "seed(53)", "weeks(1) 0", "seed(68)", "weeks(1) 0", "seed(3)", "weeks(1) 0");
        e.edge(28, "if there are such ones and it can be", "town YR500P0S00", "seed(224)", "weeks(1) 7", "deny(0, 0) 0",
            "seed(224)", "weeks(1) 0");
        e.edge(28, "if there are such ones and it can be", "town YR501P0", "seed(224)", "weeks(1) 10", "dawn()",
            "seed(224)", "weeks(1) 0");
    }

    private static void weeksRefused(Edges e) {
        e.edge(28, "OUTSIDE: m.", "town YR500P0", "weeks(0) OUTSIDE", "weeks(-1) OUTSIDE",
            "weeks(-2147483648) OUTSIDE");
        e.edge(28, "OUTSIDE: m.", "town YR500P0S00", "weeks(20) 220", "weeks(21) OUTSIDE", "weeks(2147483647) OUTSIDE");
        e.edge(28, "What is refused changes nothing.", "seed(9) 0", "weeks(0) OUTSIDE", "weeks(21) OUTSIDE",
            "weeks(-1) OUTSIDE", "seed(0) 9");
    }
}
