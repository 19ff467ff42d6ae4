import java.util.ArrayList;
import java.util.List;
import java.util.function.LongSupplier;

/** All that can be seen of an object, by as many calls as it may still answer; the object is used up by it. */
final class Look {
    private final DawnCoin coin;
    private final List<Long> seen = new ArrayList<>();
    private int calls;

    Look(DawnCoin coin, int calls) {
        this.coin = coin;
        this.calls = calls;
    }

    List<Long> all() {
        standing();
        heard();
        see(coin::fault);
        see(() -> coin.seed(0));
        acts();
        see(() -> coin.again(0));
        standing();
        see(() -> coin.again(1));
        standing();
        see(coin::town);
        standing();
        return seen;
    }

    private void see(LongSupplier call) {
        if (calls > 0) {
            calls--;
            seen.add(call.getAsLong());
        }
    }

    private void standing() {
        for (int what = 0; what <= 8; what++) {
            int asked = what;
            see(() -> coin.count(asked));
        }
        for (int r = 0; r < 5; r++) {
            int rumour = r;
            see(() -> coin.rumour(rumour, 0));
            see(() -> coin.rumour(rumour, 3));
            see(() -> coin.rumour(rumour, 4));
            see(() -> coin.rumour(rumour, 5));
            for (int p = 0; p < 4; p++) {
                int person = p;
                see(() -> coin.coins(person, rumour));
            }
        }
    }

    private void heard() {
        for (int r = 0; r < 5; r++) {
            int rumour = r;
            see(() -> coin.where(rumour, 0));
            see(() -> coin.where(rumour, 1));
        }
    }

    private void acts() {
        long left = 1;
        for (int i = 0; i < 14 && calls > 0 && left > 0; i++) {
            see(coin::undo);
            left = seen.get(seen.size() - 1);
            see(() -> coin.count(3));
            see(() -> coin.count(4));
            see(() -> coin.count(6));
            see(() -> coin.rumour(0, 3));
            see(() -> coin.rumour(0, 4));
        }
    }
}
