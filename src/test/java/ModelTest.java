import java.util.Random;

/** Long runs of calls, ordinary and wrong ones, by a fixed seed: DawnCoin and Model answer alike. */
public final class ModelTest {
    private static final int RUNS = 1200, CALLS = 512, SPOILT = 5;
    private static final String SIGNS = "YRXPS0123456789 ";

    private final Due due;
    private final Random dice;
    private final DawnCoin coin = new DawnCoin();
    private final Model model = new Model();
    private int calls;

    private ModelTest(Due due, long seed) {
        this.due = due;
        this.dice = new Random(seed);
    }

    public static void main(String[] args) {
        Due due = new Due("ModelTest");
        for (int run = 0; run < RUNS && due.wrong() < SPOILT; run++) {
            new ModelTest(due, run).run(run);
        }
        due.end();
    }

    private void run(int run) {
        // Every fourth run has many dawns, so that purses fill up to 99.
        int dawnsInTen = run % 4 == 0 ? 7 : 1;
        if (run % 7 != 0) {
            tell(town());
        }
        while (calls < CALLS - 60 && due.wrong() < SPOILT) {
            if (dice.nextInt(150) == 0) {
                tell(town());
            }
            if (dice.nextInt(10) < dawnsInTen) {
                same("dawn()", coin.dawn(), model.dawn());
            } else if (dice.nextInt(3) == 0) {
                act();
            } else {
                ask();
            }
        }
    }

    private void same(String call, long got, long want) {
        calls++;
        due.is("call " + calls + " " + call, got, want);
    }

    private void tell(String text) {
        same("wipe()", coin.wipe(), model.wipe());
        for (char c : text.toCharArray()) {
            same("write(" + (int) c + ")", coin.write(c), model.write(c));
        }
        same("fault of " + text, coin.fault(), model.fault());
        same("town of " + text, coin.town(), model.town());
    }

    /** A text that is mostly a town; at times one letter of it is spoilt, or its end is cut off. */
    private String town() {
        StringBuilder text = new StringBuilder("Y");
        int rumours = 0;
        for (int i = 0; i < 18; i++) {
            String part = part(Math.max(1, rumours), i);
            if (text.length() + part.length() <= 48 && Model.parts(text + part) != null) {
                text.append(part);
                rumours += part.startsWith("R") ? 1 : 0;
            }
        }
        if (dice.nextInt(4) == 0) {
            text.setCharAt(dice.nextInt(text.length()), SIGNS.charAt(dice.nextInt(SIGNS.length())));
        }
        if (dice.nextInt(8) == 0) {
            text.setLength(dice.nextInt(text.length() + 1));
        }
        return text.toString();
    }

    private String part(int rumours, int place) {
        switch (place < 2 ? place : dice.nextInt(6)) {
            case 0: return "R" + (1 + dice.nextInt(9)) + dice.nextInt(2) + dice.nextInt(10);
            case 1: return "P" + dice.nextInt(6);
            case 2: return "X" + dice.nextInt(rumours) + dice.nextInt(rumours);
            case 3: return "R" + (1 + dice.nextInt(3)) + dice.nextInt(2) + (dice.nextBoolean() ? 0 : 7);
            default: return "S" + dice.nextInt(rumours) + dice.nextInt(6);
        }
    }

    /** A number from 0 to most, at times one beside that, or far off. */
    private int number(int most) {
        switch (dice.nextInt(40)) {
            case 0: return -1;
            case 1: return most + 1;
            case 2: return dice.nextBoolean() ? Integer.MIN_VALUE : Integer.MAX_VALUE;
            default: return dice.nextInt(most + 1);
        }
    }

    private int rumour() {
        return number(Math.max(0, model.count(1) - 1));
    }

    private int person() {
        return number(Math.max(0, model.count(2) - 1));
    }

    private void act() {
        int p = person(), q = person(), r = rumour(), t = number(5), slot = number(1);
        switch (dice.nextInt(9)) {
            case 0: case 1: same("say " + r + " " + t, coin.say(r, t), model.say(r, t)); break;
            case 2: case 3: same("deny " + r + " " + t, coin.deny(r, t), model.deny(r, t)); break;
            case 4: case 5: same("pay " + p + " " + q + " " + r, coin.pay(p, q, r), model.pay(p, q, r)); break;
            case 6: same("undo", coin.undo(), model.undo()); break;
            case 7: same("keep " + slot, coin.keep(slot), model.keep(slot)); break;
            default: same("again " + slot, coin.again(slot), model.again(slot)); break;
        }
    }

    private void ask() {
        int p = person(), q = person(), r = rumour(), t = number(5), n = number(8), what = number(8);
        boolean so = dice.nextBoolean();
        String with = " p " + p + " q " + q + " r " + r + " t " + t + " n " + n + " what " + what + " " + so;
        switch (dice.nextInt(20)) {
            case 0: same("fault", coin.fault(), model.fault()); break;
            case 1: same("rumour" + with, coin.rumour(r, what), model.rumour(r, what)); break;
            case 2: same("table" + with, coin.table(p), model.table(p)); break;
            case 3: same("coins" + with, coin.coins(p, r), model.coins(p, r)); break;
            case 4: same("worth" + with, coin.worth(r, n), model.worth(r, n)); break;
            case 5: same("purse" + with, coin.purse(p, n), model.purse(p, n)); break;
            case 6: same("bestDay" + with, coin.bestDay(p), model.bestDay(p)); break;
            case 7: same("reach" + with, coin.reach(r, t), model.reach(r, t)); break;
            case 8: same("holds" + with, coin.holds(p, so), model.holds(p, so)); break;
            case 9: judge(); break;
            case 10: case 11: same("hear" + with, coin.hear(r, t, n, so), model.hear(r, t, n, so)); break;
            case 12: if (n < 3) same("unhear", coin.unhear(), model.unhear()); break;
            case 13: same("where" + with, coin.where(r, what % 4), model.where(r, what % 4)); break;
            case 14: same("share" + with, coin.share(t, r, n, so), model.share(t, r, n, so)); break;
            case 15: same("rests" + with, coin.rests(p, q, n, what % 3), model.rests(p, q, n, what % 3)); break;
            case 16: chance(r, so); break;
            case 17: chain(); break;
            case 18: same("count" + with, coin.count(what), model.count(what)); break;
            default: plan(p, n, so); break;
        }
    }

    private void judge() {
        int n = number(4);
        long row = 0;
        for (int i = 0; i < n && n < 9; i++) {
            row = 1000 * row + 100 * dice.nextInt(dice.nextInt(4) == 0 ? 10 : 3) + 10 * dice.nextInt(6) + dice.nextInt(7);
        }
        row = dice.nextInt(30) == 0 ? -row : dice.nextInt(30) == 0 ? 1000 * row : row;
        row = dice.nextInt(60) == 0 ? dice.nextLong() : row;
        same("judge " + n + " " + row, coin.judge(n, row), model.judge(n, row));
    }

    private void chance(int r, boolean upper) {
        int w = number(20), x = number(10);
        same("chance " + r + " " + w + " " + x + " " + upper, coin.chance(r, w, x, upper), model.chance(r, w, x, upper));
    }

    private void chain() {
        long v = dice.nextLong();
        int m = number(20);
        if (dice.nextBoolean()) {
            same("seed " + v, coin.seed(v), model.seed(v));
        }
        same("weeks " + m, coin.weeks(m), model.weeks(m));
    }

    private void plan(int p, int n, boolean row) {
        // The model goes through every order of things, which is dear.
        if (dice.nextInt(4) == 0) {
            same("plan " + p + " " + n + " " + row, coin.plan(p, n, row), model.plan(p, n, row));
        }
    }
}
