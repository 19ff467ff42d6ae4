/** The boundaries of promises 29 to 31: slots, and counts. */
final class SlotsEdges {
    private SlotsEdges() {
    }

    static void all(Edges e) {
        keep(e);
        again(e);
        againWhatWasKept(e);
        againRefused(e);
        counts(e);
        countsAtTheirMost(e);
    }

    private static void keep(Edges e) {
        e.edge(29, "They are kept: THE DAY.", "keep(0) 0", "keep(1) 0", "town YR500", "keep(0) 0", "30 dawn()",
            "keep(1) 30", "again(0) 0", "count(3) 0", "again(1) 30", "count(3) 30");
        e.edge(29, "They are kept: THE DAY.", "town YR500", "keep(0) 0", "dawn()", "keep(0) 1", "dawn()", "again(0) 1",
            "count(3) 1");
        e.edge(29, "UNKNOWN", "keep(-1) UNKNOWN", "keep(-2147483648) UNKNOWN", "again(0) STATE", "again(1) STATE");
        e.edge(29, "UNKNOWN", "keep(2) UNKNOWN", "keep(2147483647) UNKNOWN", "again(0) STATE", "again(1) STATE");
        e.edge(29, "SLOTS 0 to 1 keep what is SAID", "keep(0) 0", "again(1) STATE", "keep(1) 0", "again(1) 0",
            "keep(2) UNKNOWN", "keep(-1) UNKNOWN");
        // What is kept is no act, and what is done later does not change it.
        e.edge(29, "They are kept", "town YR500P0S00", "keep(0) 0", "count(7) 0", "dawn() 1", "say(0, 5) 3",
            "deny(0, 0) 2", "again(0) 0", "rumour(0, 3) 1", "rumour(0, 4) 0", "coins(0, 0) 0");
        e.edge(29, "They are kept", "town YR500P0S00", "dawn() 1", "keep(0) 1", "undo() 0", "again(0) 1",
            "coins(0, 0) 1");
    }

    private static void again(Edges e) {
        e.edge(30, "They are as they were kept: THE DAY.", "town YR500P0S00", "dawn() 1", "keep(1) 1", "3 dawn()",
            "again(1) 1", "count(3) 1", "2 dawn()", "again(1) 1", "count(3) 1", "again(1) 1");
        e.edge(30, "(THE ROW of ACTS is empty when one goes on)", "town YR500P0S00", "dawn() 1", "dawn() 1",
            "keep(0) 2", "count(7) 2", "again(0) 2", "count(7) 0", "undo() STATE", "dawn() 1", "count(7) 1", "undo() 0",
            "count(3) 2", "undo() STATE");
        e.edge(30, "(THE ROW of ACTS is empty when one goes on)", "town YR500", "14 dawn()", "keep(0) 14", "5 dawn()",
            "again(0) 14", "3 dawn()", "count(7) 3", "3 undo()", "count(3) 14", "undo() STATE");
    }

    private static void againWhatWasKept(Edges e) {
        String words = "SLOTS 0 to 1 keep what is SAID, DENIED, PURSES, THE DAY";
        e.edge(30, words, "town YR500R500S00", "keep(0) 0", "say(0, 5) 2", "say(1, 1) 1", "again(0) 0",
            "rumour(0, 3) 1", "rumour(1, 3) 0");
        e.edge(30, words, "town YR500S00", "deny(0, 5) 1", "keep(0) 0", "deny(0, 0) 0", "deny(0, 1) 0", "again(0) 0",
            "rumour(0, 4) 32", "rumour(0, 3) 1");
        e.edge(30, words, "town YR500P0P5S00", "dawn() 1", "keep(0) 1", "pay(0, 1, 0) 7", "again(0) 1", "coins(0, 0) 1",
            "coins(1, 0) 0");
        e.edge(30, words, "town YR100R100R100R100R900P0P0P0P5S45", "dawn() 1", "deny(4, 0) 2", "keep(1) 1",
            "pay(3, 2, 4) 10", "deny(4, 5) 1", "again(1) 1", "coins(3, 4) 1", "coins(2, 4) 0", "rumour(4, 3) 48",
            "rumour(4, 4) 1");
        e.edge(30, words, "town YR511S00", "keep(0) 0", "dawn()", "rumour(0, 6) 1", "again(0) 0", "rumour(0, 6) 0",
            "count(3) 0", "rumour(0, 3) 1");
        // The text, what is heard and the seed are not among them.
        e.edge(30, words, "town YR500", "keep(0) 0", "hear(0, 0, 0, true) 1", "seed(8) 0", "wipe() 5", "write(89) 1",
            "again(0) 0", "count(8) 1", "count(0) 1", "seed(0) 8");
    }

    private static void againRefused(Edges e) {
        e.edge(30, "UNKNOWN", "keep(0) 0", "keep(1) 0", "again(-1) UNKNOWN", "again(-2147483648) UNKNOWN");
        e.edge(30, "UNKNOWN", "keep(0) 0", "keep(1) 0", "again(2) UNKNOWN", "again(2147483647) UNKNOWN");
        e.edge(30, "STATE: none were kept.", "again(0) STATE", "again(1) STATE", "keep(1) 0", "again(0) STATE",
            "again(1) 0");
        e.edge(30, "STATE: none were kept.", "keep(0) 0", "town Y", "again(0) STATE");
        e.edge(30, "REFUSALS, of several the first that a call names", "again(2) UNKNOWN", "again(-1) UNKNOWN");
        e.edge(30, "What is refused changes nothing.", "town YR500P0S00", "dawn() 1", "again(0) STATE",
            "again(2) UNKNOWN", "count(3) 1", "count(7) 1", "coins(0, 0) 1", "undo() 0");
    }

    private static void counts(Edges e) {
        e.edge(31, "OUTSIDE.", "count(-1) OUTSIDE", "count(-2147483648) OUTSIDE");
        e.edge(31, "OUTSIDE.", "count(8) 0", "count(9) OUTSIDE", "count(2147483647) OUTSIDE");
        e.edge(31, "0 letters of THE TEXT", "count(0) 0", "48 write(89)", "count(0) 48", "write(89) FULL",
            "count(0) 48", "wipe() 48", "count(0) 0");
        e.edge(31, "3 THE DAY", "count(3) 0", "dawn() 0", "count(3) 1", "undo() 0", "count(3) 0");
        e.edge(31, "6 RUMOURS that are SAID somewhere (bits)", "town YR500R511R500S00S15", "count(6) 3", "dawn()",
            "count(6) 1", "deny(0, 0) 1", "count(6) 1", "deny(0, 1) 0", "count(6) 0", "say(2, 5) 1", "count(6) 4");
        e.edge(31, "7 ACTS in the row", "town YR500", "count(7) 0", "say(0, 0) 1", "count(7) 1", "12 dawn()",
            "count(7) 13", "dawn()", "count(7) 14", "dawn()", "count(7) 14", "undo() 13", "count(7) 13");
        e.edge(31, "8 HEARD", "town YR500", "count(8) 0", "6 hear(0, 0, 0, true)", "count(8) 6",
            "hear(0, 0, 0, true) FULL", "count(8) 6", "unhear() 6", "count(8) 0");
    }

    private static void countsAtTheirMost(Edges e) {
        e.edge(31, "1 RUMOURS, 2 PEOPLE", "count(1) 0", "count(2) 0", "town YR100R100R100R100R100P0P0P0P0",
            "count(1) 5", "count(2) 4", "town Y", "count(1) 0", "count(2) 0");
        e.edge(31, "4 COINS of all, 5 what all PURSES are worth now",
            "town YR909R909R909R909R909P0P0P0P0S00S10S20S30S40", "count(4) 0", "count(5) 0", "dawn() 20", "count(4) 20",
            "count(5) 220", "110 dawn()", "count(4) 1980", "count(5) 35640", "count(6) 31");
        e.edge(31, "5 what all PURSES are worth now", "town YR512P0P0S00", "dawn() 2", "count(5) 14", "dawn() 2",
            "count(4) 4", "count(5) 0");
    }
}
