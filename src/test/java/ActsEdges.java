/** The boundaries of promises 9 to 13: dawns, said, denied, paid, undone. */
final class ActsEdges {
    private ActsEdges() {
    }

    static void all(Edges e) {
        coinsStruck(e);
        fullPurse(e);
        spreading(e);
        liesProved(e);
        say(e);
        sayRefused(e);
        deny(e);
        denyRefused(e);
        pay(e);
        payNotTaken(e);
        payRefused(e);
        undo(e);
        undoEachKind(e);
        rowOfActs(e);
    }

    private static void coinsStruck(Edges e) {
        e.edge(9, "how many COINS were struck.", "dawn() 0");
        e.edge(9, "how many COINS were struck.", "town YR500S00", "dawn() 0");
        e.edge(9, "how many COINS were struck.", "town YR500P0", "dawn() 0");
        e.edge(9, "how many COINS were struck.", "town YR100R100R100R100R100P0P0P0P0S00S10S20S30S40", "dawn() 20",
            "coins(0, 0) 1", "coins(3, 4) 1", "count(4) 20");
        e.edge(9, "each PERSON gets a COIN of each RUMOUR that is SAID at its TABLE", "town YR500R500P2P2P3S02S13",
            "dawn() 3", "coins(0, 0) 1", "coins(1, 0) 1", "coins(2, 0) 0", "coins(0, 1) 0", "coins(2, 1) 1");
        e.edge(9, "each PERSON gets a COIN of each RUMOUR that is SAID at its TABLE", "town YR500P0S00", "dawn() 1",
            "deny(0, 0) 1", "dawn() 0", "coins(0, 0) 1");
    }

    private static void fullPurse(Edges e) {
        e.edge(9, "(it has 99 of one at most)", "town YR200P0P1S00", "98 dawn()", "coins(0, 0) 98", "dawn() 2",
            "coins(0, 0) 99", "dawn() 1", "coins(0, 0) 99", "coins(1, 0) 99", "dawn() 0", "coins(0, 0) 99",
            "coins(1, 0) 99", "count(3) 101");
        e.edge(9, "(it has 99 of one at most)", "town YR200R200P0S00", "99 dawn()", "say(1, 0) 1", "dawn() 1",
            "coins(0, 0) 99", "coins(0, 1) 1");
    }

    private static void spreading(Edges e) {
        e.edge(9, "Then each RUMOUR is SAID at each TABLE at which it was, or at one beside which it was",
            "town YR500P1P2P3S02", "dawn() 1", "coins(1, 0) 1", "coins(0, 0) 0", "coins(2, 0) 0", "rumour(0, 3) 14",
            "dawn() 3");
        e.edge(9, "TABLES are 0 to 5 in a row", "town YR500S00", "dawn()", "rumour(0, 3) 3", "dawn()",
            "rumour(0, 3) 7");
        e.edge(9, "TABLES are 0 to 5 in a row", "town YR500S05", "dawn()", "rumour(0, 3) 48", "dawn()",
            "rumour(0, 3) 56");
        e.edge(9, "TABLES are 0 to 5 in a row", "town YR500S00S01S02S03S04S05", "dawn()", "rumour(0, 3) 63");
        e.edge(9, "Then each RUMOUR is SAID at each TABLE", "town YR500", "dawn()", "rumour(0, 3) 0", "count(6) 0");
        e.edge(9, "but where it is DENIED.", "town YR500S02", "deny(0, 1) 1", "dawn()", "rumour(0, 3) 12", "dawn()",
            "rumour(0, 3) 28", "2 dawn()", "rumour(0, 3) 60");
        e.edge(9, "but where it is DENIED.", "town YR500R500S02S12", "deny(0, 3) 1", "dawn()", "rumour(0, 3) 6",
            "rumour(1, 3) 14");
        e.edge(9, "THE DAY is one more", "town Y", "count(3) 0", "dawn() 0", "count(3) 1", "dawn() 0", "count(3) 2");
        e.edge(9, "DAYS 0 and on.", "town YR509P0", "9 dawn()", "count(3) 9", "dawn()", "count(3) 10", "290 dawn()",
            "count(3) 300", "rumour(0, 6) 1");
    }

    private static void liesProved(Edges e) {
        e.edge(9, "a lie that is PROVED then is SAID nowhere.", "town YR511P0S00", "dawn() 1", "rumour(0, 3) 0",
            "coins(0, 0) 1", "dawn() 0", "rumour(0, 3) 0");
        e.edge(9, "a lie that is PROVED then is SAID nowhere.", "town YR512P0S00", "dawn() 1", "rumour(0, 3) 3",
            "dawn() 1", "rumour(0, 3) 0", "coins(0, 0) 2");
        e.edge(9, "a lie that is PROVED then is SAID nowhere.", "town YR519S00", "8 dawn()", "rumour(0, 3) 63",
            "dawn()", "rumour(0, 3) 0");
        e.edge(9, "a lie that is PROVED then is SAID nowhere.", "town YR501P1S00", "dawn() 0", "rumour(0, 3) 3",
            "dawn() 1", "rumour(0, 3) 7");
        e.edge(9, "a lie that is PROVED then is SAID nowhere.", "town YR510S00", "12 dawn()", "rumour(0, 3) 63");
    }

    private static void say(Edges e) {
        e.edge(10, "at how many TABLES it is then.", "town YR500", "say(0, 0) 1", "say(0, 5) 2", "say(0, 1) 3",
            "say(0, 2) 4", "say(0, 3) 5", "say(0, 4) 6", "rumour(0, 3) 63", "count(7) 6");
        e.edge(10, "at how many TABLES it is then.", "town YR500R500S00S01", "say(1, 5) 1", "rumour(0, 3) 3",
            "rumour(1, 3) 32");
        e.edge(10, "SAID: a RUMOUR that is not PROVED", "town YR502", "say(0, 0) 1", "dawn()", "say(0, 5) 3", "dawn()",
            "say(0, 3) STATE", "dawn()", "say(0, 3) STATE", "count(7) 5");
        e.edge(10, "SAID: a RUMOUR that is not PROVED", "town YR512", "say(0, 0) 1", "dawn()", "say(0, 5) 3", "dawn()",
            "say(0, 3) STATE", "dawn()", "say(0, 3) STATE", "rumour(0, 3) 0");
        e.edge(10, "SAID: a RUMOUR that is not PROVED", "town YR509", "8 dawn()", "say(0, 0) 1", "dawn()",
            "say(0, 5) STATE");
        e.edge(10, "SAID: a RUMOUR that is not PROVED", "town YR500", "40 dawn()", "say(0, 0) 1");
        e.edge(10, "at a TABLE at which it is not", "town YR500R500S03", "say(0, 3) STATE", "say(1, 3) 1",
            "say(1, 3) STATE", "rumour(0, 3) 8", "rumour(1, 3) 8", "count(7) 1");
        e.edge(10, "and not DENIED.", "town YR500R500S03", "deny(0, 3) 0", "say(0, 3) STATE", "deny(0, 5) 0",
            "say(0, 5) STATE", "say(0, 4) 1", "say(1, 3) 1");
    }

    private static void sayRefused(Edges e) {
        e.edge(10, "UNKNOWN", "town YR500R500", "say(-1, 0) UNKNOWN", "say(-2147483648, 0) UNKNOWN", "count(7) 0");
        e.edge(10, "UNKNOWN", "town YR500R500", "say(2, 0) UNKNOWN", "say(2147483647, 0) UNKNOWN", "count(7) 0");
        e.edge(10, "OUTSIDE: table", "town YR500", "say(0, -1) OUTSIDE", "say(0, -2147483648) OUTSIDE",
            "rumour(0, 3) 0");
        e.edge(10, "OUTSIDE: table", "town YR500", "say(0, 6) OUTSIDE", "say(0, 32) OUTSIDE",
            "say(0, 2147483647) OUTSIDE", "rumour(0, 3) 0");
        e.edge(10, "STATE: it can not be.", "town YR501S00", "say(0, 0) STATE", "dawn()", "say(0, 5) STATE",
            "rumour(0, 3) 3", "count(7) 1");
        e.edge(10, "REFUSALS, of several the first that a call names", "town YR501", "dawn()", "say(1, 6) UNKNOWN",
            "say(-1, 0) UNKNOWN", "say(0, 6) OUTSIDE", "say(0, 5) STATE");
        e.edge(10, "What is refused changes nothing.", "town YR500S00", "say(0, 0) STATE", "say(1, 0) UNKNOWN",
            "say(0, 6) OUTSIDE", "count(7) 0", "undo() STATE", "rumour(0, 3) 1");
    }

    private static void deny(Edges e) {
        e.edge(11, "at how many TABLES it is SAID then.", "town YR500S00", "deny(0, 0) 0", "rumour(0, 3) 0");
        e.edge(11, "at how many TABLES it is SAID then.", "town YR500S00S01S02S03S04S05", "deny(0, 5) 5",
            "deny(0, 0) 4", "deny(0, 1) 3", "deny(0, 2) 2", "deny(0, 3) 1", "deny(0, 4) 0", "rumour(0, 4) 63",
            "rumour(0, 3) 0");
        e.edge(11, "at how many TABLES it is SAID then.", "town YR500S00S01", "deny(0, 5) 2", "rumour(0, 3) 3");
        e.edge(11, "DENIED: a RUMOUR that is no PROVED true one", "town YR502S00", "dawn()", "deny(0, 5) 2", "dawn()",
            "deny(0, 0) STATE", "dawn()", "deny(0, 0) STATE", "rumour(0, 4) 32");
        e.edge(11, "DENIED: a RUMOUR that is no PROVED true one", "town YR509S00", "8 dawn()", "deny(0, 5) 5", "dawn()",
            "deny(0, 4) STATE");
        e.edge(11, "DENIED: a RUMOUR that is no PROVED true one", "town YR511S00", "dawn()", "deny(0, 0) 0", "dawn()",
            "deny(0, 5) 0", "rumour(0, 4) 33");
        e.edge(11, "DENIED: a RUMOUR that is no PROVED true one", "town YR500S00", "30 dawn()", "deny(0, 0) 5");
        e.edge(11, "at a TABLE at which it is not DENIED", "town YR500R500S00", "deny(0, 0) 0", "deny(0, 0) STATE",
            "deny(0, 5) 0", "deny(0, 5) STATE", "deny(1, 0) 0", "count(7) 3");
        e.edge(11, "it is, and not SAID there any more.", "town YR500R500S00S03S13", "deny(0, 3) 1", "rumour(0, 4) 8",
            "rumour(0, 3) 1", "rumour(1, 3) 8", "rumour(1, 4) 0");
    }

    private static void denyRefused(Edges e) {
        e.edge(11, "UNKNOWN", "town YR500R500", "deny(-1, 0) UNKNOWN", "deny(-2147483648, 0) UNKNOWN", "count(7) 0");
        e.edge(11, "UNKNOWN", "town YR500R500", "deny(2, 0) UNKNOWN", "deny(2147483647, 0) UNKNOWN", "count(7) 0");
        e.edge(11, "OUTSIDE: table", "town YR500", "deny(0, -1) OUTSIDE", "deny(0, -2147483648) OUTSIDE",
            "rumour(0, 4) 0");
        e.edge(11, "OUTSIDE: table", "town YR500", "deny(0, 6) OUTSIDE", "deny(0, 32) OUTSIDE",
            "deny(0, 2147483647) OUTSIDE", "rumour(0, 4) 0");
        e.edge(11, "STATE: it can not be.", "town YR501S00", "deny(0, 5) 1", "deny(0, 5) STATE", "dawn()",
            "deny(0, 4) STATE", "rumour(0, 4) 32", "count(7) 2");
        e.edge(11, "REFUSALS, of several the first that a call names", "town YR501", "dawn()", "deny(1, 6) UNKNOWN",
            "deny(-1, 0) UNKNOWN", "deny(0, 6) OUTSIDE", "deny(0, 5) STATE");
        e.edge(11, "What is refused changes nothing.", "town YR501S00", "dawn()", "deny(0, 0) STATE",
            "deny(0, 6) OUTSIDE", "deny(1, 0) UNKNOWN", "count(7) 1", "rumour(0, 3) 3", "rumour(0, 4) 0");
    }

    private static void pay(Edges e) {
        e.edge(12, "PAID: what the COIN is worth.", "town YR100P0P5S00", "dawn() 1", "pay(0, 1, 0) 3", "coins(0, 0) 0",
            "coins(1, 0) 1", "count(4) 1", "count(7) 2", "pay(1, 0, 0) 3", "coins(0, 0) 1", "coins(1, 0) 0");
        e.edge(12, "PAID: what the COIN is worth.", "town YR901P0P5S00", "dawn() 1", "pay(0, 1, 0) 18");
        e.edge(12, "if it is worth 1 or more", "town YR100P0P5S00", "dawn() 1", "deny(0, 0) 1", "worth(0, 0) 1",
            "pay(0, 1, 0) 1");
        e.edge(12, "if it is worth 1 or more", "town YR100P0P5S00", "dawn() 1", "deny(0, 0) 1", "deny(0, 5) 1",
            "worth(0, 0) 0", "pay(0, 1, 0) STATE", "coins(0, 0) 1", "coins(1, 0) 0");
        e.edge(12, "if it is worth 1 or more", "town YR912P0P5S00", "dawn() 1", "pay(0, 1, 0) 11", "dawn() 1",
            "pay(0, 1, 0) STATE", "coins(0, 0) 1");
        e.edge(12, "it has fewer than 99 of them", "town YR200P0P1S00", "99 dawn()", "coins(1, 0) 98", "pay(0, 1, 0) 8",
            "coins(1, 0) 99", "coins(0, 0) 98", "pay(0, 1, 0) STATE", "coins(1, 0) 99", "coins(0, 0) 98");
        e.edge(12, "it has fewer than 99 of them", "town YR200R300P0P0S00", "99 dawn()", "say(1, 0) 1", "dawn() 2",
            "pay(0, 1, 0) STATE", "pay(0, 1, 1) 5", "coins(1, 1) 2");
    }

    private static void payNotTaken(Edges e) {
        String words = "and none of a RUMOUR that can not be beside it.";
        e.edge(12, words, "town YR400R300X01P0P1S00S11", "dawn() 2", "pay(0, 1, 0) STATE", "coins(0, 0) 1",
            "coins(1, 0) 0");
        e.edge(12, words, "town YR400R300X01P0P1S00S11", "dawn() 2", "pay(1, 0, 1) STATE", "coins(1, 1) 1",
            "coins(0, 1) 0");
        e.edge(12, words, "town YR400R300X01P0P5P1S00S11", "dawn() 2", "pay(0, 2, 0) STATE", "pay(2, 0, 1) STATE",
            "pay(0, 1, 0) 6", "pay(2, 1, 1) STATE", "pay(2, 0, 1) 6");
        e.edge(12, "can not both be", "town YR400R300R200X02P0P1S00S11", "rumour(0, 5) 4", "rumour(1, 5) 0", "dawn() 2",
            "pay(0, 1, 0) 6", "coins(1, 0) 1", "coins(1, 1) 1");
        // The one that gives may hold both.
        e.edge(12, words, "town YR400R300X01P0P5S00S10", "dawn() 2", "pay(0, 1, 0) 6", "pay(0, 1, 1) STATE",
            "coins(0, 1) 1", "pay(1, 0, 0) STATE");
        // A coin that is worth nothing is held all the same.
        e.edge(12, words, "town YR400R311X01P0P1S00S11", "dawn() 2", "worth(1, 0) 0", "pay(0, 1, 0) STATE");
    }

    private static void payRefused(Edges e) {
        e.edge(12, "UNKNOWN: all", "town YR500P0P5S00", "dawn() 1", "pay(-1, 1, 0) UNKNOWN", "pay(2, 1, 0) UNKNOWN");
        e.edge(12, "UNKNOWN: all", "town YR500P0P5S00", "dawn() 1", "pay(0, -1, 0) UNKNOWN", "pay(0, 2, 0) UNKNOWN");
        e.edge(12, "UNKNOWN: all", "town YR500P0P5S00", "dawn() 1", "pay(0, 1, -1) UNKNOWN", "pay(0, 1, 1) UNKNOWN");
        e.edge(12, "OUTSIDE: both are one", "town YR500P0P0S00", "dawn() 2", "pay(0, 0, 0) OUTSIDE",
            "pay(1, 1, 0) OUTSIDE", "coins(0, 0) 1", "count(7) 1");
        e.edge(12, "STATE: it has none", "town YR500P0P5S00", "pay(0, 1, 0) STATE", "dawn() 1", "pay(1, 0, 0) STATE",
            "pay(0, 1, 0) 7", "pay(0, 1, 0) STATE", "coins(0, 0) 0", "coins(1, 0) 1");
        e.edge(12, "or the other one does not take it.", "town YR111P0P5S00", "dawn() 1", "pay(0, 1, 0) STATE");
        e.edge(12, "REFUSALS, of several the first that a call names", "town YR500P0P5", "pay(2, 2, 0) UNKNOWN",
            "pay(0, 0, 1) UNKNOWN", "pay(-1, -1, -1) UNKNOWN", "pay(0, 0, 0) OUTSIDE", "pay(0, 1, 0) STATE");
        e.edge(12, "What is refused changes nothing.", "town YR500P0P5S00", "dawn() 1", "pay(1, 0, 0) STATE",
            "pay(0, 0, 0) OUTSIDE", "pay(0, 2, 0) UNKNOWN", "count(7) 1", "coins(0, 0) 1", "coins(1, 0) 0", "undo() 0");
    }

    private static void undo(Edges e) {
        e.edge(13, "The last ACT is undone: how many are left.", "town YR500P0S00", "dawn() 1", "undo() 0",
            "count(3) 0", "count(4) 0", "rumour(0, 3) 1");
        e.edge(13, "the last one can be undone.", "town YR500P0S00", "dawn() 1", "say(0, 5) 3", "undo() 1",
            "rumour(0, 3) 3", "undo() 0", "rumour(0, 3) 1");
        // What is heard, the seed, the text and what was kept are no part of an act.
        e.edge(13, "The last ACT is undone", "town YR500P0S00", "dawn() 1", "hear(0, 5, 0, true) 1", "seed(6) 0",
            "keep(1) 1", "wipe() 10", "write(89) 1", "undo() 0", "count(3) 0", "count(8) 1", "count(0) 1", "seed(0) 6",
            "again(1) 1");
        e.edge(13, "STATE: there is none.", "undo() STATE", "town YR500", "undo() STATE", "say(0, 0) 1", "undo() 0",
            "undo() STATE", "rumour(0, 3) 0");
        e.edge(13, "STATE: there is none.", "town YR500", "say(0, 0) 1", "keep(0) 0", "again(0) 0", "undo() STATE",
            "rumour(0, 3) 1");
        // What is asked, kept, heard, drawn or refused is no act.
        e.edge(13, "ACTS (DAWNS, SAID, DENIED, PAID) are a row", "town YR500P0P1S00", "keep(0) 0",
            "hear(0, 0, 0, true) 1", "unhear() 1", "seed(1) 0", "weeks(3)", "plan(0, 3, true)", "judge(1, 200)",
            "rests(0, 1, 1, 0)", "say(0, 0) STATE", "wipe() 12", "write(89) 1", "count(7) 0", "undo() STATE");
    }

    private static void undoEachKind(Edges e) {
        String words = "ACTS (DAWNS, SAID, DENIED, PAID) are a row";
        e.edge(13, words, "town YR511P0S00", "dawn() 1", "count(7) 1", "undo() 0", "count(3) 0", "rumour(0, 6) 0",
            "rumour(0, 3) 1", "coins(0, 0) 0");
        e.edge(13, words, "town YR500", "say(0, 0) 1", "count(7) 1", "undo() 0", "rumour(0, 3) 0");
        e.edge(13, words, "town YR500S00", "deny(0, 0) 0", "count(7) 1", "undo() 0", "rumour(0, 3) 1",
            "rumour(0, 4) 0");
        e.edge(13, words, "town YR500S00", "deny(0, 5) 1", "undo() 0", "rumour(0, 3) 1", "rumour(0, 4) 0");
        e.edge(13, words, "town YR500P0P5S00", "dawn() 1", "pay(0, 1, 0) 7", "count(7) 2", "undo() 1", "coins(0, 0) 1",
            "coins(1, 0) 0");
        e.edge(13, words, "town YR500P0P0P0P5S05", "dawn() 1", "coins(3, 0) 1", "pay(3, 2, 0) 7", "undo() 1",
            "coins(3, 0) 1", "coins(2, 0) 0", "undo() 0", "coins(3, 0) 0");
        // A dawn that struck no coin into a full purse takes none out of it when it is undone.
        e.edge(13, words, "town YR500P0S00", "100 dawn()", "coins(0, 0) 99", "undo() 13", "coins(0, 0) 99", "undo() 12",
            "coins(0, 0) 98");
    }

    private static void rowOfActs(Edges e) {
        String words = "(14 at most; of more the first one is forgotten)";
        e.edge(13, words, "town YR500", "13 dawn()", "count(7) 13", "dawn()", "count(7) 14", "14 undo()", "count(7) 0",
            "count(3) 0", "undo() STATE");
        e.edge(13, words, "town YR500", "15 dawn()", "count(7) 14", "undo() 13", "12 undo()", "undo() 0", "count(3) 1",
            "undo() STATE", "count(3) 1");
        e.edge(13, words, "town YR500", "say(0, 0) 1", "13 dawn()", "13 undo()", "undo() 0", "rumour(0, 3) 0");
        e.edge(13, words, "town YR500", "say(0, 0) 1", "14 dawn()", "13 undo()", "undo() 0", "rumour(0, 3) 1",
            "undo() STATE");
        e.edge(13, words, "town YR500", "20 dawn()", "10 undo()", "count(7) 4", "count(3) 10", "9 dawn()",
            "count(7) 13", "say(0, 0) 1", "say(0, 5) 2", "count(7) 14", "undo() 13", "undo() 12", "11 undo()",
            "undo() 0", "count(3) 7", "undo() STATE");
        e.edge(13, words, "town YR500P0P5S00", "14 dawn()", "pay(0, 1, 0) 11", "count(7) 14", "undo() 13", "13 undo()",
            "count(3) 1", "coins(0, 0) 1", "undo() STATE");
    }
}
