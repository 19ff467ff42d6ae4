/** The boundaries of promises 1 to 8: a new object, the text, its faults, the town and what can be seen of it. */
final class TownEdges {
    private static final String FIVE = "YR100R100R100R100R100";
    /** A town of 48 letters: five rumours, three people, four pairs, three that are said. */
    private static final String LONGEST = "YR100R200R300R400R500P0P1P2X01X02X03X04S00S11S25";

    private TownEdges() {
    }

    static void all(Edges e) {
        newObject(e);
        write(e);
        wipe(e);
        faultOfParts(e);
        faultOfRumours(e);
        faultOfPairs(e);
        faultOfPlaces(e);
        faultOfLength(e);
        town(e);
        townAnew(e);
        townRefused(e);
        rumour(e);
        rumourRefused(e);
        table(e);
        coins(e);
    }

    private static void newObject(Edges e) {
        e.edge(1, "No rumours, nobody.", "count(1) 0", "count(2) 0", "rumour(0, 0) UNKNOWN", "table(0) UNKNOWN",
            "coins(0, 0) UNKNOWN", "worth(0, 0) UNKNOWN", "purse(0, 0) UNKNOWN");
        e.edge(1, "At first there is nothing.", "count(0) 0", "count(3) 0", "count(4) 0", "count(5) 0", "count(6) 0",
            "count(7) 0", "count(8) 0", "wipe() 0", "town() STATE", "undo() STATE", "again(0) STATE", "again(1) STATE",
            "unhear() 0", "seed(0) 0");
        e.edge(1, "At first there is nothing.", "dawn() 0", "count(3) 1", "count(7) 1", "undo() 0", "count(3) 0");
        e.edge(1, "An object is used for at most 512 calls after it has been made", "town YR200P0S00", "497 dawn()",
            "count(3) 497", "coins(0, 0) 99", "undo() 13");
    }

    private static void write(Edges e) {
        e.edge(2, "A letter (0 to 255) comes behind THE TEXT: how long it is.", "write(0) 1", "write(255) 2",
            "count(0) 2");
        e.edge(2, "A letter (0 to 255) comes behind THE TEXT", "write(89) 1", "write(80) 2", "write(53) 3", "town() 1",
            "table(0) 5");
        e.edge(2, "OUTSIDE", "write(-1) OUTSIDE", "write(-167) OUTSIDE", "write(-2147483648) OUTSIDE", "count(0) 0");
        e.edge(2, "OUTSIDE", "write(256) OUTSIDE", "write(345) OUTSIDE", "write(2147483647) OUTSIDE", "count(0) 0");
        e.edge(2, "OUTSIDE (another number is not as told)", "write(-1) -2", "write(256) -2");
        e.edge(2, "STATE (as told), FULL.", "48 write(89)", "write(89) -4", "town() -3");
        e.edge(2, "FULL: there are 48.", "47 write(89)", "write(89) 48", "write(89) FULL", "write(0) FULL",
            "count(0) 48");
        e.edge(2, "REFUSALS, of several the first that a call names", "48 write(89)", "write(256) OUTSIDE",
            "write(-1) OUTSIDE");
        e.edge(2, "THE TEXT is letters (48 at most).", "text " + LONGEST, "count(0) 48", "write(80) FULL",
            "fault() NONE", "town() 53", "rumour(2, 3) 32");
        e.edge(2, "FULL: there are 48.", "48 write(89)", "write(89) FULL", "wipe() 48", "write(89) 1", "fault() NONE");
        e.edge(2, "What is refused changes nothing.", "text YP3", "write(256) OUTSIDE", "write(-1) OUTSIDE", "town() 1",
            "table(0) 3");
    }

    private static void wipe(Edges e) {
        e.edge(3, "THE TEXT is empty: how long it was.", "wipe() 0", "wipe() 0", "count(0) 0");
        e.edge(3, "THE TEXT is empty: how long it was.", "write(89) 1", "wipe() 1", "wipe() 0", "count(0) 0",
            "fault() 0");
        e.edge(3, "THE TEXT is empty: how long it was.", "text " + LONGEST, "wipe() 48", "count(0) 0", "write(89) 1",
            "fault() NONE", "town() 0");
        e.edge(3, "THE TEXT is empty", "town YR500P0S00", "dawn() 1", "wipe() 10", "count(1) 1", "count(2) 1",
            "count(3) 1", "coins(0, 0) 1", "town() STATE");
    }

    private static void fault(Edges e, String words, String text, String due) {
        e.edge(4, words, "text " + text, "fault() " + due);
    }

    private static void faultOfParts(Edges e) {
        fault(e, "FAULT; NONE.", "", "0");
        fault(e, "A TOWN is a TEXT: Y, then PARTS, none or more", "Y", "NONE");
        fault(e, "A TOWN is a TEXT: Y, then PARTS, none or more", "YP0P1P2P3", "NONE");
        fault(e, "A TOWN is a TEXT: Y, then PARTS, none or more", "y", "0");
        fault(e, "A TOWN is a TEXT: Y, then PARTS, none or more", "P0Y", "0");
        fault(e, "A TOWN is a TEXT: Y, then PARTS, none or more", "YY", "1");
        fault(e, "A TOWN is a TEXT: Y, then PARTS, none or more", "Yr100", "1");
        fault(e, "A TOWN is a TEXT: Y, then PARTS, none or more", "Y0", "1");
        e.edge(4, "A TOWN is a TEXT: Y, then PARTS", "write(0) 1", "fault() 0", "wipe() 1", "write(255) 1",
            "fault() 0");
        e.edge(4, "A TOWN is a TEXT: Y, then PARTS", "text Y", "write(0) 2", "fault() 1");
        e.edge(4, "A TOWN is a TEXT: Y, then PARTS", "text Y", "write(255) 2", "fault() 1");
        fault(e, "RUMOURS (5 at most)", FIVE, "NONE");
        fault(e, "RUMOURS (5 at most)", FIVE + "R", "21");
        fault(e, "RUMOURS (5 at most)", FIVE + "R100", "21");
        fault(e, "PEOPLE (4 at most)", "YP0P0P0P0", "NONE");
        fault(e, "PEOPLE (4 at most)", "YP0P0P0P0P", "9");
        fault(e, "PEOPLE (4 at most)", "YP0P0P0P0P0", "9");
    }

    private static void faultOfRumours(Edges e) {
        fault(e, "a RUMOUR of WORD v (1 to 9)", "YR100", "NONE");
        fault(e, "a RUMOUR of WORD v (1 to 9)", "YR900", "NONE");
        fault(e, "a RUMOUR of WORD v (1 to 9)", "YR000", "2");
        fault(e, "a RUMOUR of WORD v (1 to 9)", "YR/00", "2");
        fault(e, "a RUMOUR of WORD v (1 to 9)", "YR:00", "2");
        fault(e, "k 0: true, 1: a lie", "YR110", "NONE");
        fault(e, "k 0: true, 1: a lie", "YR1/0", "3");
        fault(e, "k 0: true, 1: a lie", "YR120", "3");
        fault(e, "proved on DAY d (1 to 9; 0: never)", "YR101", "NONE");
        fault(e, "proved on DAY d (1 to 9; 0: never)", "YR109", "NONE");
        fault(e, "proved on DAY d (1 to 9; 0: never)", "YR100", "NONE");
        fault(e, "proved on DAY d (1 to 9; 0: never)", "YR10/", "4");
        fault(e, "proved on DAY d (1 to 9; 0: never)", "YR10:", "4");
    }

    private static void faultOfPairs(Edges e) {
        String two = "YR100R100", three = two + "R100";
        fault(e, "RUMOURS i and j (both told ahead", two + "X01", "NONE");
        fault(e, "RUMOURS i and j (both told ahead", "YX", "1");
        fault(e, "RUMOURS i and j (both told ahead", "YR100X01R100", "5");
        fault(e, "RUMOURS i and j (both told ahead", two + "X02R100", "11");
        fault(e, "RUMOURS i and j (both told ahead", two + "X23R100R100", "10");
        fault(e, "RUMOURS i and j (both told ahead", FIVE + "X34", "NONE");
        fault(e, "RUMOURS i and j (both told ahead", FIVE + "X35", "23");
        fault(e, "RUMOURS i and j (both told ahead", two + "X/1", "10");
        fault(e, "RUMOURS i and j (both told ahead", two + "X0/", "11");
        fault(e, "j more than i", three + "X12", "NONE");
        fault(e, "j more than i", three + "X11", "15");
        fault(e, "j more than i", three + "X10", "15");
        fault(e, "j more than i", three + "X00", "15");
        fault(e, "j more than i", three + "X21", "14");
        fault(e, "no such pair told so far", three + "X01X02X12", "NONE");
        fault(e, "no such pair told so far", three + "X01X01", "18");
        fault(e, "no such pair told so far", three + "X01X02X0", "20");
        fault(e, "no such pair told so far", three + "X12X1", "17");
        fault(e, "no such pair told so far", two + "X01X", "12");
        fault(e, "no such pair told so far", two + "X01R100X01", "18");
        fault(e, "no such pair told so far", two + "X01R100X02", "NONE");
    }

    private static void faultOfPlaces(Edges e) {
        fault(e, "a PERSON at TABLE t", "YP0", "NONE");
        fault(e, "a PERSON at TABLE t", "YP5", "NONE");
        fault(e, "a PERSON at TABLE t", "YP6", "2");
        fault(e, "a PERSON at TABLE t", "YP/", "2");
        fault(e, "RUMOUR i (told ahead) is SAID", "YS", "1");
        fault(e, "RUMOUR i (told ahead) is SAID", "YS00R100", "1");
        fault(e, "RUMOUR i (told ahead) is SAID", "YR100S0", "7");
        fault(e, "RUMOUR i (told ahead) is SAID", "YR100S10R100", "6");
        fault(e, "RUMOUR i (told ahead) is SAID", "YR100S/0", "6");
        fault(e, "RUMOUR i (told ahead) is SAID", FIVE + "S40", "NONE");
        fault(e, "RUMOUR i (told ahead) is SAID", FIVE + "S50", "22");
        fault(e, "at TABLE t (not told so far)", "YR100S00S05", "NONE");
        fault(e, "at TABLE t (not told so far)", "YR100S06", "7");
        fault(e, "at TABLE t (not told so far)", "YR100S0/", "7");
        fault(e, "at TABLE t (not told so far)", "YR100S00S00", "10");
        fault(e, "at TABLE t (not told so far)", "YR100S05S00S05", "13");
        fault(e, "at TABLE t (not told so far)", "YR100R100S00S10", "NONE");
        fault(e, "at TABLE t (not told so far)", "YR100S00S01S02S03S04S05", "NONE");
        fault(e, "at TABLE t (not told so far)", "YR100S00S01S02S03S04S05S", "23");
        fault(e, "at TABLE t (not told so far)", "YR100S00S01S02S03S04S05R100S0", "28");
        fault(e, "at TABLE t (not told so far)", "YR100S00S01S02S03S04S05R100S1", "29");
    }

    private static void faultOfLength(Edges e) {
        fault(e, "FAULT: the place of the first letter by which THE TEXT can be no TOWN", "YP6R000", "2");
        fault(e, "FAULT: the place of the first letter by which THE TEXT can be no TOWN", "YR100R000P9", "6");
        fault(e, "FAULT: the place of the first letter by which THE TEXT can be no TOWN", "yP9", "0");
        fault(e, "whatever came behind it", "YR100X", "5");
        fault(e, "whatever came behind it", "YR100R100X1", "10");
        // The last part needs more letters than a text has; its length is set aside, so that it is only not at its end.
        String fortySeven = "YR100R100R100R100S00S01S02S03S04S05S10S11S12S13";
        fault(e, "(its length set aside)", fortySeven, "NONE");
        fault(e, "(its length set aside)", fortySeven + "R", "48");
        fault(e, "(its length set aside)", fortySeven + "S", "48");
        fault(e, "(its length set aside)", fortySeven + "X", "48");
        fault(e, "(its length set aside)", fortySeven + "Y", "47");
        fault(e, "(its length set aside)", "YR100R100R100R100S00S01S02S03S04S05S10S11S12P0R1", "48");
        fault(e, "its length, if it is only not at its end", "", "0");
        fault(e, "its length, if it is only not at its end", "YR", "2");
        fault(e, "its length, if it is only not at its end", "YR1", "3");
        fault(e, "its length, if it is only not at its end", "YR10", "4");
        fault(e, "its length, if it is only not at its end", "YP", "2");
        fault(e, "its length, if it is only not at its end", "YR100S", "6");
        fault(e, "its length, if it is only not at its end", "YR100S0", "7");
        fault(e, "its length, if it is only not at its end", "YR100R100X", "10");
        fault(e, "its length, if it is only not at its end", "YR100R100X0", "11");
        fault(e, "NONE: none.", LONGEST, "NONE");
        fault(e, "NONE is -9.", "Y", "-9");
        e.edge(4, "FAULT; NONE.", "town YR500P0S00", "dawn() 1", "text YR100R200R300X01P5P5S00", "fault() NONE",
            "count(1) 1", "rumour(0, 0) 5", "rumour(0, 5) 0", "table(0) 0", "coins(0, 0) 1");
    }

    private static void town(Edges e) {
        e.edge(5, "10 times RUMOURS, and PEOPLE.", "text Y", "town() 0", "count(1) 0", "count(2) 0");
        e.edge(5, "10 times RUMOURS, and PEOPLE.", "text " + FIVE + "P0P1P2P3", "town() 54", "count(1) 5",
            "count(2) 4");
        e.edge(5, "10 times RUMOURS, and PEOPLE.", "text YR100", "town() 10", "text YP0", "town() 1");
        e.edge(5, "are numbered as they are told, each for itself", "text YP3R900P1R211P5", "town() 23", "table(0) 3",
            "table(1) 1", "table(2) 5", "rumour(0, 0) 9", "rumour(1, 0) 2", "rumour(0, 1) 0", "rumour(1, 1) 1");
        e.edge(5, "THE TEXT is THE TOWN", "town YR500R500P0S00S15", "rumour(0, 3) 1", "rumour(1, 3) 32",
            "text YR500R500S15", "count(2) 1", "town() 20", "count(2) 0", "rumour(0, 3) 0", "rumour(1, 3) 32");
        e.edge(5, "THE TEXT is THE TOWN", "town YR500", "count(0) 5", "write(80) 6", "town() STATE", "write(48) 7",
            "town() 11", "count(0) 7", "table(0) 0");
        e.edge(5, "THE TEXT is THE TOWN", "town YR500R500X01", "rumour(0, 5) 2", "town YR500R500", "rumour(0, 5) 0",
            "rumour(1, 5) 0");
    }

    private static void townAnew(Edges e) {
        e.edge(5, "(THE ROW of ACTS is empty", "town YR500P0S00", "dawn()", "say(0, 5)", "count(7) 2", "town() 11",
            "count(7) 0", "undo() STATE");
        e.edge(5, "what was kept is gone", "town YR500P0S00", "keep(0) 0", "keep(1) 0", "town() 11", "again(0) STATE",
            "again(1) STATE");
        e.edge(5, "what is HEARD, THE SEED stay)", "town YR500P0S00", "hear(0, 5, 0, true) 1", "town() 11",
            "count(8) 1", "where(0, 1) 32");
        e.edge(5, "what is HEARD, THE SEED stay)", "town YR500P0S00", "seed(-7) 0", "town() 11", "seed(0) -7");
        e.edge(5, "THE DAY is 0", "town YR501P0S00", "3 dawn()", "rumour(0, 6) 1", "town() 11", "count(3) 0",
            "rumour(0, 6) 0");
        e.edge(5, "nothing is DENIED", "town YR500R500S00", "deny(0, 0) 0", "deny(1, 5) 0", "town() 20",
            "rumour(0, 4) 0", "rumour(1, 4) 0", "rumour(0, 3) 1", "say(1, 5) 1");
        e.edge(5, "PURSES are empty, when THE TOWN is made anew.", "town YR500R500P0P0S00S10", "dawn() 4", "town() 22",
            "count(4) 0", "coins(0, 0) 0", "coins(1, 1) 0");
    }

    private static void townRefused(Edges e) {
        e.edge(5, "STATE: a FAULT.", "town() STATE", "write(89) 1", "town() 0");
        e.edge(5, "STATE: a FAULT.", "text YP0P", "town() STATE", "count(2) 0");
        e.edge(5, "STATE: a FAULT.", "text YP0P6", "town() STATE", "count(2) 0");
        e.edge(5, "What is refused changes nothing.", "town YR413R600X01P3S00", "dawn() 0", "say(1, 3) 1", "dawn() 1",
            "deny(0, 5) 3", "keep(1) 2", "text YR900R900R900P0P0R", "town() STATE", "count(1) 2", "count(2) 1",
            "count(3) 2", "count(4) 1", "count(7) 4", "rumour(0, 0) 4", "rumour(0, 4) 32", "rumour(1, 5) 1",
            "table(0) 3", "again(1) 2");
    }

    private static void rumour(Edges e) {
        e.edge(6, "Of a RUMOUR its WORD (what = 0)", "town YR100R900", "rumour(0, 0) 1", "rumour(1, 0) 9");
        e.edge(6, "1 if it is a lie (1)", "town YR100R110", "rumour(0, 1) 0", "rumour(1, 1) 1");
        e.edge(6, "the DAY on which it is PROVED (2; 0: never)", "town YR100R101R109R113", "rumour(0, 2) 0",
            "rumour(1, 2) 1", "rumour(2, 2) 9", "rumour(3, 2) 3");
        e.edge(6, "TABLES at which it is SAID (3: bits)", "town YR100R100R100S10S25", "rumour(0, 3) 0",
            "rumour(1, 3) 1", "rumour(2, 3) 32");
        e.edge(6, "TABLES at which it is SAID (3: bits)", "town YR100S00S01S02S03S04S05", "rumour(0, 3) 63",
            "rumour(0, 4) 0");
        e.edge(6, "DENIED (4: bits)", "town YR100", "rumour(0, 4) 0", "deny(0, 0) 0", "rumour(0, 4) 1", "deny(0, 5) 0",
            "rumour(0, 4) 33", "deny(0, 1)", "deny(0, 2)", "deny(0, 3)", "deny(0, 4)", "rumour(0, 4) 63",
            "rumour(0, 3) 0");
        e.edge(6, "RUMOURS that can not be beside it (5: bits)", "town " + FIVE + "X04X12X14", "rumour(0, 5) 16",
            "rumour(1, 5) 20", "rumour(2, 5) 2", "rumour(3, 5) 0", "rumour(4, 5) 3");
        e.edge(6, "1 if it is PROVED (6)", "town YR102R112R100", "dawn()", "rumour(0, 6) 0", "rumour(1, 6) 0", "dawn()",
            "rumour(0, 6) 1", "rumour(1, 6) 1", "rumour(2, 6) 0", "dawn()", "rumour(0, 6) 1", "rumour(1, 6) 1");
        e.edge(6, "PROVED is a RUMOUR from its DAY on.", "town YR109R101", "rumour(1, 6) 0", "dawn()", "rumour(1, 6) 1",
            "7 dawn()", "rumour(0, 6) 0", "dawn()", "rumour(0, 6) 1", "60 dawn()", "rumour(0, 6) 1", "rumour(1, 6) 1");
        e.edge(6, "0: never)", "town YR100R110S10", "120 dawn()", "rumour(0, 6) 0", "rumour(1, 6) 0",
            "rumour(1, 3) 63");
    }

    private static void rumourRefused(Edges e) {
        e.edge(6, "UNKNOWN", "town YR100R100", "rumour(-1, 0) UNKNOWN", "rumour(-2147483648, 0) UNKNOWN");
        e.edge(6, "UNKNOWN", "town YR100R100", "rumour(1, 0) 1", "rumour(2, 0) UNKNOWN",
            "rumour(2147483647, 0) UNKNOWN");
        e.edge(6, "UNKNOWN", "town " + FIVE, "rumour(4, 0) 1", "rumour(5, 0) UNKNOWN");
        e.edge(6, "UNKNOWN (there is no such RUMOUR, PERSON, SLOT)", "town " + FIVE, "town YR100", "rumour(0, 0) 1",
            "rumour(1, 0) -1");
        e.edge(6, "OUTSIDE", "town YR100", "rumour(0, -1) OUTSIDE", "rumour(0, -2147483648) OUTSIDE");
        e.edge(6, "OUTSIDE", "town YR100", "rumour(0, 6) 0", "rumour(0, 7) OUTSIDE", "rumour(0, 2147483647) OUTSIDE");
        e.edge(6, "REFUSALS, of several the first that a call names", "town YR100", "rumour(1, 7) UNKNOWN",
            "rumour(-1, -1) UNKNOWN");
    }

    private static void table(Edges e) {
        e.edge(7, "The TABLE of a PERSON.", "town YP0P5", "table(0) 0", "table(1) 5");
        e.edge(7, "UNKNOWN", "town YP0P5", "table(-1) UNKNOWN", "table(-2147483648) UNKNOWN");
        e.edge(7, "UNKNOWN", "town YP0P5", "table(2) UNKNOWN", "table(2147483647) UNKNOWN");
        e.edge(7, "UNKNOWN", "town YP0P0P0P1", "table(3) 1", "table(4) UNKNOWN");
        e.edge(7, "UNKNOWN (there is no such RUMOUR, PERSON, SLOT)", "town YP0P0P0P1", "town YP2", "table(0) 2",
            "table(1) UNKNOWN");
    }

    private static void coins(Edges e) {
        e.edge(8, "How many COINS of a RUMOUR a PERSON has.", "town YR100R100P0P5S00", "coins(0, 0) 0", "dawn() 1",
            "coins(0, 0) 1", "coins(0, 1) 0", "coins(1, 0) 0");
        e.edge(8, "UNKNOWN: both.", "town YR100P0P5S00", "dawn() 1", "coins(-1, 0) UNKNOWN", "coins(2, 0) UNKNOWN");
        e.edge(8, "UNKNOWN: both.", "town YR100P0P5S00", "dawn() 1", "coins(0, -1) UNKNOWN", "coins(1, -1) UNKNOWN",
            "coins(0, 1) UNKNOWN");
        e.edge(8, "UNKNOWN: both.", "town YR100P0S00", "dawn() 1", "coins(1, 1) UNKNOWN",
            "coins(-2147483648, 2147483647) UNKNOWN", "coins(2147483647, -2147483648) UNKNOWN");
    }
}
