/** The boundaries of promises 21 to 23: what is heard, and where it was said. */
final class HeardEdges {
    private HeardEdges() {
    }

    static void all(Edges e) {
        hear(e);
        hearRefused(e);
        unhear(e);
        where(e);
        whereThereIsNone(e);
        whereOfOthers(e);
        whereRefused(e);
    }

    private static void hear(Edges e) {
        e.edge(21, "HEARD: how many there are.", "town YR500", "hear(0, 0, 0, true) 1", "hear(0, 5, 8, false) 2",
            "hear(0, 5, 8, false) 3", "count(8) 3");
        e.edge(21, "6 such at most, none at first", "count(8) 0", "town YR500", "count(8) 0", "5 hear(0, 5, 8, true)",
            "hear(0, 5, 8, true) 6", "hear(0, 5, 8, true) FULL", "count(8) 6");
        e.edge(21, "that IN n DAYS (0 to 8) from now on", "town YR500", "hear(0, 0, 0, true) 1",
            "hear(0, 0, 8, true) 2", "hear(0, 0, -1, true) OUTSIDE", "hear(0, 0, 9, true) OUTSIDE", "count(8) 2");
        e.edge(21, "a RUMOUR is SAID at a TABLE, or is not", "town YR500", "hear(0, 3, 0, true) 1", "where(0, 1) 8",
            "unhear() 1", "hear(0, 3, 0, false) 1", "where(0, 2) 8");
    }

    private static void hearRefused(Edges e) {
        e.edge(21, "UNKNOWN", "town YR500", "hear(-1, 0, 0, true) UNKNOWN", "hear(-2147483648, 0, 0, true) UNKNOWN",
            "count(8) 0");
        e.edge(21, "UNKNOWN", "town YR500", "hear(1, 0, 0, true) UNKNOWN", "hear(2147483647, 0, 0, false) UNKNOWN",
            "count(8) 0");
        e.edge(21, "OUTSIDE: table, n", "town YR500", "hear(0, -1, 0, true) OUTSIDE",
            "hear(0, -2147483648, 0, true) OUTSIDE", "count(8) 0");
        e.edge(21, "OUTSIDE: table, n", "town YR500", "hear(0, 6, 0, true) OUTSIDE",
            "hear(0, 2147483647, 0, true) OUTSIDE", "count(8) 0");
        e.edge(21, "OUTSIDE: table, n", "town YR500", "hear(0, 0, -1, true) OUTSIDE",
            "hear(0, 0, -2147483648, true) OUTSIDE", "count(8) 0");
        e.edge(21, "OUTSIDE: table, n", "town YR500", "hear(0, 0, 9, true) OUTSIDE",
            "hear(0, 0, 2147483647, true) OUTSIDE", "count(8) 0");
        e.edge(21, "FULL: 6.", "town YR500", "6 hear(0, 0, 0, true)", "hear(0, 5, 0, true) FULL", "where(0, 1) 1");
        e.edge(21, "REFUSALS, of several the first that a call names", "town YR500", "6 hear(0, 0, 0, true)",
            "hear(1, 6, 9, true) UNKNOWN", "hear(-1, 0, 0, true) UNKNOWN", "hear(0, 6, 0, true) OUTSIDE",
            "hear(0, 0, 9, true) OUTSIDE", "hear(0, 0, 0, true) FULL");
        e.edge(21, "What is refused changes nothing.", "town YR500", "hear(1, 0, 0, true) UNKNOWN",
            "hear(0, 6, 0, true) OUTSIDE", "hear(0, 0, 9, true) OUTSIDE", "count(8) 0", "where(0, 0) 64");
    }

    private static void unhear(Edges e) {
        e.edge(22, "Nothing is HEARD: how many there were.", "unhear() 0", "town YR500", "unhear() 0", "count(8) 0");
        e.edge(22, "Nothing is HEARD: how many there were.", "town YR500", "hear(0, 3, 0, true) 1", "where(0, 0) 32",
            "unhear() 1", "unhear() 0", "count(8) 0", "where(0, 0) 64");
        e.edge(22, "Nothing is HEARD: how many there were.", "town YR500", "6 hear(0, 3, 0, true)", "unhear() 6",
            "hear(0, 2, 0, true) 1", "where(0, 1) 4");
    }

    private static void where(Edges e) {
        e.edge(23, "WHERE: how many sets (what = 0)", "town YR500", "where(0, 0) 64", "where(0, 1) 0", "where(0, 2) 0");
        e.edge(23, "WHERE: how many sets (what = 0)", "town YR500S03", "where(0, 0) 64", "where(0, 1) 0",
            "where(0, 2) 0");
        e.edge(23, "TABLES in all (1), in none (2), as bits; NONE.", "town YR500", "hear(0, 5, 0, true) 1",
            "where(0, 0) 32", "where(0, 1) 32", "where(0, 2) 0", "hear(0, 0, 0, false) 2", "where(0, 0) 16",
            "where(0, 1) 32", "where(0, 2) 1");
        // The set of no tables is a set, too: alone it leaves all tables in none.
        e.edge(23, "WHERE for a RUMOUR: sets of TABLES (bits)", "town YR500", "hear(0, 5, 8, false) 1", "where(0, 0) 1",
            "where(0, 1) 0", "where(0, 2) 63");
        e.edge(23, "that IN n DAYS (0 to 8) from now on", "town YR500", "hear(0, 5, 8, true) 1", "where(0, 0) 63",
            "unhear()", "hear(0, 5, 5, true) 1", "where(0, 0) 63", "unhear()", "hear(0, 5, 4, true) 1",
            "where(0, 0) 62", "unhear()", "hear(0, 5, 1, true) 1", "where(0, 0) 48", "unhear()",
            "hear(0, 5, 0, true) 1", "where(0, 0) 32");
        e.edge(23, "none of them one at which it is DENIED", "town YR500S00S01", "deny(0, 0) 1", "deny(0, 5) 1",
            "where(0, 0) 16", "where(0, 1) 0", "where(0, 2) 33");
        e.edge(23, "none of them one at which it is DENIED", "town YR500", "deny(0, 0)", "deny(0, 1)", "deny(0, 2)",
            "deny(0, 3)", "deny(0, 4)", "deny(0, 5)", "where(0, 0) 1", "where(0, 1) 0", "where(0, 2) 63");
        e.edge(23, "none of them one at which it is DENIED", "town YR500", "deny(0, 2) 0", "hear(0, 5, 8, true) 1",
            "hear(0, 0, 0, true) 2", "where(0, 0) 14", "where(0, 1) 1", "where(0, 2) 4");
    }

    private static void whereThereIsNone(Edges e) {
        String words = "TABLES in all; in none; NONE (of the latter two): there is none.";
        e.edge(23, words, "town YR500", "hear(0, 3, 0, true) 1", "hear(0, 3, 0, false) 2", "where(0, 0) 0",
            "where(0, 1) NONE", "where(0, 2) NONE");
        e.edge(23, words, "town YR500", "hear(0, 3, 0, true) 1", "where(0, 1) 8", "deny(0, 3) 0", "where(0, 0) 0",
            "where(0, 1) NONE", "where(0, 2) NONE");
        e.edge(23, words, "town YR512", "hear(0, 0, 1, true) 1", "where(0, 0) 48", "hear(0, 0, 2, true) 2",
            "where(0, 0) 0", "where(0, 1) NONE", "where(0, 2) NONE");
        e.edge(23, words, "town YR500", "hear(0, 3, 1, false) 1", "hear(0, 3, 0, true) 2", "where(0, 0) 0",
            "where(0, 1) NONE");
    }

    private static void whereOfOthers(Edges e) {
        String words = "(of RUMOURS that there are not any more nothing is looked at)";
        e.edge(23, words, "town YR500R500", "hear(1, 3, 0, true) 1", "town YR500", "count(8) 1", "where(0, 0) 64",
            "where(1, 0) UNKNOWN", "hear(0, 2, 0, true) 2", "where(0, 0) 32");
        e.edge(23, words, "town YR500R500", "hear(1, 3, 0, true) 1", "town YR500", "town YR100R200", "where(1, 0) 32",
            "where(1, 1) 8", "where(0, 0) 64");
        e.edge(23, "all that is HEARD of it is so", "town YR500R500", "hear(1, 3, 0, true) 1", "hear(1, 3, 0, false) 2",
            "where(0, 0) 64", "where(1, 0) 0");
    }

    private static void whereRefused(Edges e) {
        e.edge(23, "UNKNOWN", "town YR500", "where(-1, 0) UNKNOWN", "where(-2147483648, 0) UNKNOWN");
        e.edge(23, "UNKNOWN", "town YR500", "where(1, 0) UNKNOWN", "where(2147483647, 0) UNKNOWN");
        e.edge(23, "OUTSIDE", "town YR500", "where(0, -1) OUTSIDE", "where(0, -2147483648) OUTSIDE");
        e.edge(23, "OUTSIDE", "town YR500", "where(0, 3) OUTSIDE", "where(0, 2147483647) OUTSIDE");
        e.edge(23, "REFUSALS, of several the first that a call names", "town YR500", "where(1, 3) UNKNOWN",
            "where(-1, -1) UNKNOWN");
        e.edge(23, "REFUSALS, of several the first that a call names", "town YR500", "hear(0, 3, 0, true) 1",
            "hear(0, 3, 0, false) 2", "where(0, 3) OUTSIDE", "where(0, -1) OUTSIDE");
    }
}
